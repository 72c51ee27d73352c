/-! RoofAcross$Text() -/
def rm_Ti : Room := { frames := 1, cells := 1, slots := 40, locals := 64 }
abbrev mi_Ti : ra_MI := (⟨cn_T, "<init>", "(I)V"⟩, prog_9_method_1_code, 2, none, rm_Ti, 2)
set_option maxRecDepth 100000 in
theorem jc_Ti : Cond.code (mi_Ti).1 (mi_Ti).2.1 (mi_Ti).2.2.1 (mi_Ti).2.2.2.1 ∈ ra_WS := ra_in 100 (by decide +kernel) (by decide +kernel)
set_option maxRecDepth 100000 in
theorem ji_Ti : Cond.initialized (mi_Ti).1.cls ∈ ra_WS := ra_in 64 (by decide +kernel) (by decide +kernel)
set_option maxRecDepth 100000 in
theorem jm_Ti : Cond.instanceMethod (mi_Ti).1 ∈ ra_WS := ra_in 99 (by decide +kernel) (by decide +kernel)
set_option maxRecDepth 100000 in
theorem jn_Ti : Cond.instantiable cn_T 3 ∈ ra_WS := ra_in 97 (by decide +kernel) (by decide +kernel)
set_option maxRecDepth 100000 in
theorem ml_Ti_3 : Cond.methodLink cn_T 3 Lib.objectInit ∈ ra_WS := ra_in 101 (by decide +kernel) (by decide +kernel)
set_option maxRecDepth 100000 in
theorem fl_T_15 : Cond.fieldLink cn_T 15 (cf_T 1).1 (cf_T 1).2.1 (cf_T 1).2.2.1 ∈ ra_WS := ra_in 104 (by decide +kernel) (by decide +kernel)
theorem d_Ti_0 : decode prog_9_method_1_code 0 = .ok (.aload_n 0, 1) := by decide +kernel
theorem d_Ti_1 : decode prog_9_method_1_code 1 = .ok (.invokespecial 3, 3) := by decide +kernel
theorem d_Ti_4 : decode prog_9_method_1_code 4 = .ok (.aload_n 0, 1) := by decide +kernel
theorem d_Ti_5 : decode prog_9_method_1_code 5 = .ok (.bipush 40, 2) := by decide +kernel
theorem d_Ti_7 : decode prog_9_method_1_code 7 = .ok (.newarray .int, 2) := by decide +kernel
theorem d_Ti_9 : decode prog_9_method_1_code 9 = .ok (.putfield 9, 3) := by decide +kernel
theorem d_Ti_12 : decode prog_9_method_1_code 12 = .ok (.aload_n 0, 1) := by decide +kernel
theorem d_Ti_13 : decode prog_9_method_1_code 13 = .ok (.iload_n 1, 1) := by decide +kernel
theorem d_Ti_14 : decode prog_9_method_1_code 14 = .ok (.putfield 15, 3) := by decide +kernel
theorem d_Ti_17 : decode prog_9_method_1_code 17 = .ok (.return_, 1) := by decide +kernel
def w_Ti (kc : Nat → ClassId) (h0 : Nat) (a1 : Int32) (q : Nat → Nat) : va_W := [(h0, .inr (2, [.ref (q 0), .int a1, .int 0])), ((q 0), .inl (kc 0, 40, .inl (fun _ => 0)))]
set_option maxHeartbeats 4000000 in
set_option maxRecDepth 100000 in
theorem c_Ti {l : Launch} {D : va_G} (kc : Nat → ClassId) (h0 : Nat) (a1 : Int32) : rz_M l D kc mi_Ti h0 2 [.null, .int 0, .int 0] [.int a1] (w_Ti kc h0 a1) := by
  refine rz_enter cn_T rfl rfl rfl (by decide +kernel) (Nat.le_of_ble_eq_true rfl) ?_
  intro p e s m below meth c ls A F hin hr hlk hP hD hl
  have hl : lv_has ls 2 [(0, .ref h0), (1, .int a1)] := hl
  have hS : va_S A s.heap s.heap [] := va_S.rf
  refine lv_aload_n F.1 F.2.1 d_Ti_0 rfl (lv_at hl 0 rfl) ?_
  refine rz_obj F ml_Ti_3 hl (by decide) (Nat.le_of_ble_eq_true rfl) d_Ti_1 ?_
  refine lv_aload_n F.1 F.2.1 d_Ti_4 rfl (lv_at hl 0 rfl) ?_
  refine lv_bipush (v := 40) F.1 F.2.1 d_Ti_5 (by decide) ?_
  refine rz_newI F (N := 40) rfl (by decide) (Nat.le_of_ble_eq_true rfl) (Nat.le_of_ble_eq_true rfl) hP hD hS d_Ti_7 (fun q1 H hP hD hS => ?_)
  refine W.widen (k := 1) (n := 40) (Nat.le_of_ble_eq_true rfl) (Nat.le_of_ble_eq_true rfl) ?_
  have hP : va_P D ra_cl ([(h0, .inr (2, [.null, .int 0, .int 0])), (q1, .inl (kc 0, 40, .inl (fun _ => 0)))]) H := hP
  have hD : va_D A ([(h0, .inr (2, [.null, .int 0, .int 0])), (q1, .inl (kc 0, 40, .inl (fun _ => 0)))]) := hD
  refine rz_putF F hin cg_T 0 rfl 0 (by decide) fl_T_9 rfl rfl rfl rfl (Nat.le_of_ble_eq_true rfl) hP hD hS d_Ti_9 (fun H locs hP hD hS => ?_)
  have hP : va_P D ra_cl ([(h0, .inr (2, [.ref q1, .int 0, .int 0])), (q1, .inl (kc 0, 40, .inl (fun _ => 0)))]) H := hP
  have hD : va_D A ([(h0, .inr (2, [.ref q1, .int 0, .int 0])), (q1, .inl (kc 0, 40, .inl (fun _ => 0)))]) := hD
  refine lv_aload_n F.1 F.2.1 d_Ti_12 rfl (lv_at hl 0 rfl) ?_
  refine lv_iload_n F.1 F.2.1 d_Ti_13 rfl (lv_at hl 1 rfl) ?_
  refine rz_putF F hin cg_T 0 rfl 1 (by decide) fl_T_15 rfl rfl rfl rfl (Nat.le_of_ble_eq_true rfl) hP hD hS d_Ti_14 (fun H locs hP hD hS => ?_)
  have hP : va_P D ra_cl ([(h0, .inr (2, [.ref q1, .int a1, .int 0])), (q1, .inl (kc 0, 40, .inl (fun _ => 0)))]) H := hP
  have hD : va_D A ([(h0, .inr (2, [.ref q1, .int a1, .int 0])), (q1, .inl (kc 0, 40, .inl (fun _ => 0)))]) := hD
  have hP9 := hP.sub (ws' := w_Ti kc h0 a1 (fun j => [q1].getD j 0)) [0, 1] rfl
  have hD9 := hD.sub (ws' := w_Ti kc h0 a1 (fun j => [q1].getD j 0)) [0, 1] (by decide) rfl
  exact rz_ret (w := w_Ti kc h0 a1) F hr hlk (fun j => [q1].getD j 0) hP9 hD9 hS (Nat.le_of_ble_eq_true rfl) (Nat.le_of_ble_eq_true rfl) d_Ti_17
/-! RoofAcross$Village() -/
def rm_Vi : Room := { frames := 2, cells := 10, slots := 134, locals := 85 }
abbrev mi_Vi : ra_MI := (⟨cn_V, "<init>", "()V"⟩, prog_10_method_1_code, 1, none, rm_Vi, 1)
set_option maxRecDepth 100000 in
theorem jc_Vi : Cond.code (mi_Vi).1 (mi_Vi).2.1 (mi_Vi).2.2.1 (mi_Vi).2.2.2.1 ∈ ra_WS := ra_in 94 (by decide +kernel) (by decide +kernel)
set_option maxRecDepth 100000 in
theorem ji_Vi : Cond.initialized (mi_Vi).1.cls ∈ ra_WS := ra_in 63 (by decide +kernel) (by decide +kernel)
set_option maxRecDepth 100000 in
theorem jm_Vi : Cond.instanceMethod (mi_Vi).1 ∈ ra_WS := ra_in 93 (by decide +kernel) (by decide +kernel)
set_option maxRecDepth 100000 in
theorem jn_Vi : Cond.instantiable cn_V 12 ∈ ra_WS := ra_in 91 (by decide +kernel) (by decide +kernel)
set_option maxRecDepth 100000 in
theorem ml_Vi_3 : Cond.methodLink cn_V 3 Lib.objectInit ∈ ra_WS := ra_in 95 (by decide +kernel) (by decide +kernel)
set_option maxRecDepth 100000 in
theorem cl_Vi_9 : Cond.classLink cn_V 9 cn_T ∈ ra_WS := ra_in 96 (by decide +kernel) (by decide +kernel)
set_option maxRecDepth 100000 in
theorem ml_Vi_11 : Cond.methodLink cn_V 11 (mi_Ti).1 ∈ ra_WS := ra_in 98 (by decide +kernel) (by decide +kernel)
theorem d_Vi_0 : decode prog_10_method_1_code 0 = .ok (.aload_n 0, 1) := by decide +kernel
theorem d_Vi_1 : decode prog_10_method_1_code 1 = .ok (.invokespecial 3, 3) := by decide +kernel
theorem d_Vi_4 : decode prog_10_method_1_code 4 = .ok (.aload_n 0, 1) := by decide +kernel
theorem d_Vi_5 : decode prog_10_method_1_code 5 = .ok (.new 9, 3) := by decide +kernel
theorem d_Vi_8 : decode prog_10_method_1_code 8 = .ok (.dup, 1) := by decide +kernel
theorem d_Vi_9 : decode prog_10_method_1_code 9 = .ok (.bipush 40, 2) := by decide +kernel
theorem d_Vi_11 : decode prog_10_method_1_code 11 = .ok (.invokespecial 11, 3) := by decide +kernel
theorem d_Vi_14 : decode prog_10_method_1_code 14 = .ok (.putfield 14, 3) := by decide +kernel
theorem d_Vi_17 : decode prog_10_method_1_code 17 = .ok (.aload_n 0, 1) := by decide +kernel
theorem d_Vi_18 : decode prog_10_method_1_code 18 = .ok (.new 9, 3) := by decide +kernel
theorem d_Vi_21 : decode prog_10_method_1_code 21 = .ok (.dup, 1) := by decide +kernel
theorem d_Vi_22 : decode prog_10_method_1_code 22 = .ok (.bipush 10, 2) := by decide +kernel
theorem d_Vi_24 : decode prog_10_method_1_code 24 = .ok (.invokespecial 11, 3) := by decide +kernel
theorem d_Vi_27 : decode prog_10_method_1_code 27 = .ok (.putfield 20, 3) := by decide +kernel
theorem d_Vi_30 : decode prog_10_method_1_code 30 = .ok (.aload_n 0, 1) := by decide +kernel
theorem d_Vi_31 : decode prog_10_method_1_code 31 = .ok (.bipush 8, 2) := by decide +kernel
theorem d_Vi_33 : decode prog_10_method_1_code 33 = .ok (.newarray .int, 2) := by decide +kernel
theorem d_Vi_35 : decode prog_10_method_1_code 35 = .ok (.putfield 23, 3) := by decide +kernel
theorem d_Vi_38 : decode prog_10_method_1_code 38 = .ok (.aload_n 0, 1) := by decide +kernel
theorem d_Vi_39 : decode prog_10_method_1_code 39 = .ok (.bipush 8, 2) := by decide +kernel
theorem d_Vi_41 : decode prog_10_method_1_code 41 = .ok (.newarray .int, 2) := by decide +kernel
theorem d_Vi_43 : decode prog_10_method_1_code 43 = .ok (.putfield 27, 3) := by decide +kernel
theorem d_Vi_46 : decode prog_10_method_1_code 46 = .ok (.aload_n 0, 1) := by decide +kernel
theorem d_Vi_47 : decode prog_10_method_1_code 47 = .ok (.bipush 8, 2) := by decide +kernel
theorem d_Vi_49 : decode prog_10_method_1_code 49 = .ok (.newarray .int, 2) := by decide +kernel
theorem d_Vi_51 : decode prog_10_method_1_code 51 = .ok (.putfield 30, 3) := by decide +kernel
theorem d_Vi_54 : decode prog_10_method_1_code 54 = .ok (.aload_n 0, 1) := by decide +kernel
theorem d_Vi_55 : decode prog_10_method_1_code 55 = .ok (.bipush 8, 2) := by decide +kernel
theorem d_Vi_57 : decode prog_10_method_1_code 57 = .ok (.newarray .int, 2) := by decide +kernel
theorem d_Vi_59 : decode prog_10_method_1_code 59 = .ok (.putfield 33, 3) := by decide +kernel
theorem d_Vi_62 : decode prog_10_method_1_code 62 = .ok (.aload_n 0, 1) := by decide +kernel
theorem d_Vi_63 : decode prog_10_method_1_code 63 = .ok (.bipush 8, 2) := by decide +kernel
theorem d_Vi_65 : decode prog_10_method_1_code 65 = .ok (.newarray .int, 2) := by decide +kernel
theorem d_Vi_67 : decode prog_10_method_1_code 67 = .ok (.putfield 36, 3) := by decide +kernel
theorem d_Vi_70 : decode prog_10_method_1_code 70 = .ok (.aload_n 0, 1) := by decide +kernel
theorem d_Vi_71 : decode prog_10_method_1_code 71 = .ok (.bipush 8, 2) := by decide +kernel
theorem d_Vi_73 : decode prog_10_method_1_code 73 = .ok (.newarray .int, 2) := by decide +kernel
theorem d_Vi_75 : decode prog_10_method_1_code 75 = .ok (.putfield 39, 3) := by decide +kernel
theorem d_Vi_78 : decode prog_10_method_1_code 78 = .ok (.aload_n 0, 1) := by decide +kernel
theorem d_Vi_79 : decode prog_10_method_1_code 79 = .ok (.iconst (-1), 1) := by decide +kernel
theorem d_Vi_80 : decode prog_10_method_1_code 80 = .ok (.putfield 42, 3) := by decide +kernel
theorem d_Vi_83 : decode prog_10_method_1_code 83 = .ok (.aload_n 0, 1) := by decide +kernel
theorem d_Vi_84 : decode prog_10_method_1_code 84 = .ok (.iconst (-1), 1) := by decide +kernel
theorem d_Vi_85 : decode prog_10_method_1_code 85 = .ok (.putfield 46, 3) := by decide +kernel
theorem d_Vi_88 : decode prog_10_method_1_code 88 = .ok (.return_, 1) := by decide +kernel
def w_Vi (kc : Nat → ClassId) (h0 : Nat) (q : Nat → Nat) : va_W := [(h0, .inr (1, [.ref (q 0), .ref (q 2), .ref (q 4), .ref (q 5), .ref (q 6), .ref (q 7), .ref (q 8), .ref (q 9), .int 0, .int (-1), .int (-1), .int 0])), ((q 0), .inr (2, [.ref (q 1), .int 40, .int 0])), ((q 1), .inl (kc 0, 40, .inl (fun _ => 0))), ((q 2), .inr (2, [.ref (q 3), .int 10, .int 0])), ((q 3), .inl (kc 0, 40, .inl (fun _ => 0))), ((q 4), .inl (kc 0, 8, .inl (fun _ => 0))), ((q 5), .inl (kc 0, 8, .inl (fun _ => 0))), ((q 6), .inl (kc 0, 8, .inl (fun _ => 0))), ((q 7), .inl (kc 0, 8, .inl (fun _ => 0))), ((q 8), .inl (kc 0, 8, .inl (fun _ => 0))), ((q 9), .inl (kc 0, 8, .inl (fun _ => 0)))]
set_option maxHeartbeats 4000000 in
set_option maxRecDepth 100000 in
theorem c_Vi {l : Launch} {D : va_G} (kc : Nat → ClassId) (h0 : Nat) : rz_M l D kc mi_Vi h0 1 [.null, .null, .null, .null, .null, .null, .null, .null, .int 0, .int 0, .int 0, .int 0] [] (w_Vi kc h0) := by
  refine rz_enter cn_V rfl rfl rfl (by decide +kernel) (Nat.le_of_ble_eq_true rfl) ?_
  intro p e s m below meth c ls A F hin hr hlk hP hD hl
  have hl : lv_has ls 1 [(0, .ref h0)] := hl
  have hS : va_S A s.heap s.heap [] := va_S.rf
  refine lv_aload_n F.1 F.2.1 d_Vi_0 rfl (lv_at hl 0 rfl) ?_
  refine rz_obj F ml_Vi_3 hl (by decide) (Nat.le_of_ble_eq_true rfl) d_Vi_1 ?_
  refine lv_aload_n F.1 F.2.1 d_Vi_4 rfl (lv_at hl 0 rfl) ?_
  refine rz_new F cg_T (fs := [.null, .int 0, .int 0]) (fun j hj => by have : j < 3 := hj; revert j; decide) cl_Vi_9 jn_Ti ji_Ti (Nat.le_of_ble_eq_true rfl) (Nat.le_of_ble_eq_true rfl) hP hD hS d_Vi_5 (fun q1 H hP hD hS => ?_)
  refine W.widen (k := 1) (n := 3) (Nat.le_of_ble_eq_true rfl) (Nat.le_of_ble_eq_true rfl) ?_
  have hP : va_P D ra_cl ([(h0, .inr (1, [.null, .null, .null, .null, .null, .null, .null, .null, .int 0, .int 0, .int 0, .int 0])), (q1, .inr (2, [.null, .int 0, .int 0]))]) H := hP
  have hD : va_D A ([(h0, .inr (1, [.null, .null, .null, .null, .null, .null, .null, .null, .int 0, .int 0, .int 0, .int 0])), (q1, .inr (2, [.null, .int 0, .int 0]))]) := hD
  refine lv_dup F.1 F.2.1 d_Vi_8 rfl ?_
  refine lv_bipush (v := 40) F.1 F.2.1 d_Vi_9 (by decide) ?_
  refine rz_callI (wr := [(h0, .inr (1, [.null, .null, .null, .null, .null, .null, .null, .null, .int 0, .int 0, .int 0, .int 0]))]) (As := [.int 40]) (rest := [.ref q1, .ref h0]) F (c_Ti kc q1 40) rfl jc_Ti ji_Ti ml_Vi_11 jm_Ti rfl ⟨by decide +kernel, by decide +kernel, by show _ = some 1; decide +kernel⟩ ⟨Nat.le_of_ble_eq_true rfl, Nat.le_of_ble_eq_true rfl⟩ ⟨Nat.le_of_ble_eq_true rfl, Nat.le_of_ble_eq_true rfl⟩ hP hD hS hl rfl (Nat.le_of_ble_eq_true rfl) d_Vi_11 (fun u2 H locs hP hD hS => ?_)
  refine W.widen (k := 2) (n := 43) (Nat.le_of_ble_eq_true rfl) (Nat.le_of_ble_eq_true rfl) ?_
  have hP : va_P D ra_cl ([(h0, .inr (1, [.null, .null, .null, .null, .null, .null, .null, .null, .int 0, .int 0, .int 0, .int 0])), (q1, .inr (2, [.ref (u2 0), .int 40, .int 0])), ((u2 0), .inl (kc 0, 40, .inl (fun _ => 0)))]) H := hP
  have hD : va_D A ([(h0, .inr (1, [.null, .null, .null, .null, .null, .null, .null, .null, .int 0, .int 0, .int 0, .int 0])), (q1, .inr (2, [.ref (u2 0), .int 40, .int 0])), ((u2 0), .inl (kc 0, 40, .inl (fun _ => 0)))]) := hD
  refine rz_putF F hin cg_V 0 rfl 0 (by decide) fl_V_14 rfl rfl rfl rfl (Nat.le_of_ble_eq_true rfl) hP hD hS d_Vi_14 (fun H locs hP hD hS => ?_)
  have hP : va_P D ra_cl ([(h0, .inr (1, [.ref q1, .null, .null, .null, .null, .null, .null, .null, .int 0, .int 0, .int 0, .int 0])), (q1, .inr (2, [.ref (u2 0), .int 40, .int 0])), ((u2 0), .inl (kc 0, 40, .inl (fun _ => 0)))]) H := hP
  have hD : va_D A ([(h0, .inr (1, [.ref q1, .null, .null, .null, .null, .null, .null, .null, .int 0, .int 0, .int 0, .int 0])), (q1, .inr (2, [.ref (u2 0), .int 40, .int 0])), ((u2 0), .inl (kc 0, 40, .inl (fun _ => 0)))]) := hD
  refine lv_aload_n F.1 F.2.1 d_Vi_17 rfl (lv_at hl 0 rfl) ?_
  refine rz_new F cg_T (fs := [.null, .int 0, .int 0]) (fun j hj => by have : j < 3 := hj; revert j; decide) cl_Vi_9 jn_Ti ji_Ti (Nat.le_of_ble_eq_true rfl) (Nat.le_of_ble_eq_true rfl) hP hD hS d_Vi_18 (fun q3 H hP hD hS => ?_)
  refine W.widen (k := 3) (n := 46) (Nat.le_of_ble_eq_true rfl) (Nat.le_of_ble_eq_true rfl) ?_
  have hP : va_P D ra_cl ([(h0, .inr (1, [.ref q1, .null, .null, .null, .null, .null, .null, .null, .int 0, .int 0, .int 0, .int 0])), (q1, .inr (2, [.ref (u2 0), .int 40, .int 0])), ((u2 0), .inl (kc 0, 40, .inl (fun _ => 0))), (q3, .inr (2, [.null, .int 0, .int 0]))]) H := hP
  have hD : va_D A ([(h0, .inr (1, [.ref q1, .null, .null, .null, .null, .null, .null, .null, .int 0, .int 0, .int 0, .int 0])), (q1, .inr (2, [.ref (u2 0), .int 40, .int 0])), ((u2 0), .inl (kc 0, 40, .inl (fun _ => 0))), (q3, .inr (2, [.null, .int 0, .int 0]))]) := hD
  refine lv_dup F.1 F.2.1 d_Vi_21 rfl ?_
  refine lv_bipush (v := 10) F.1 F.2.1 d_Vi_22 (by decide) ?_
  refine rz_callI (wr := [(h0, .inr (1, [.ref q1, .null, .null, .null, .null, .null, .null, .null, .int 0, .int 0, .int 0, .int 0])), (q1, .inr (2, [.ref (u2 0), .int 40, .int 0])), ((u2 0), .inl (kc 0, 40, .inl (fun _ => 0)))]) (As := [.int 10]) (rest := [.ref q3, .ref h0]) F (c_Ti kc q3 10) rfl jc_Ti ji_Ti ml_Vi_11 jm_Ti rfl ⟨by decide +kernel, by decide +kernel, by show _ = some 1; decide +kernel⟩ ⟨Nat.le_of_ble_eq_true rfl, Nat.le_of_ble_eq_true rfl⟩ ⟨Nat.le_of_ble_eq_true rfl, Nat.le_of_ble_eq_true rfl⟩ hP hD hS hl rfl (Nat.le_of_ble_eq_true rfl) d_Vi_24 (fun u4 H locs hP hD hS => ?_)
  refine W.widen (k := 4) (n := 86) (Nat.le_of_ble_eq_true rfl) (Nat.le_of_ble_eq_true rfl) ?_
  have hP : va_P D ra_cl ([(h0, .inr (1, [.ref q1, .null, .null, .null, .null, .null, .null, .null, .int 0, .int 0, .int 0, .int 0])), (q1, .inr (2, [.ref (u2 0), .int 40, .int 0])), ((u2 0), .inl (kc 0, 40, .inl (fun _ => 0))), (q3, .inr (2, [.ref (u4 0), .int 10, .int 0])), ((u4 0), .inl (kc 0, 40, .inl (fun _ => 0)))]) H := hP
  have hD : va_D A ([(h0, .inr (1, [.ref q1, .null, .null, .null, .null, .null, .null, .null, .int 0, .int 0, .int 0, .int 0])), (q1, .inr (2, [.ref (u2 0), .int 40, .int 0])), ((u2 0), .inl (kc 0, 40, .inl (fun _ => 0))), (q3, .inr (2, [.ref (u4 0), .int 10, .int 0])), ((u4 0), .inl (kc 0, 40, .inl (fun _ => 0)))]) := hD
  refine rz_putF F hin cg_V 0 rfl 1 (by decide) fl_V_20 rfl rfl rfl rfl (Nat.le_of_ble_eq_true rfl) hP hD hS d_Vi_27 (fun H locs hP hD hS => ?_)
  have hP : va_P D ra_cl ([(h0, .inr (1, [.ref q1, .ref q3, .null, .null, .null, .null, .null, .null, .int 0, .int 0, .int 0, .int 0])), (q1, .inr (2, [.ref (u2 0), .int 40, .int 0])), ((u2 0), .inl (kc 0, 40, .inl (fun _ => 0))), (q3, .inr (2, [.ref (u4 0), .int 10, .int 0])), ((u4 0), .inl (kc 0, 40, .inl (fun _ => 0)))]) H := hP
  have hD : va_D A ([(h0, .inr (1, [.ref q1, .ref q3, .null, .null, .null, .null, .null, .null, .int 0, .int 0, .int 0, .int 0])), (q1, .inr (2, [.ref (u2 0), .int 40, .int 0])), ((u2 0), .inl (kc 0, 40, .inl (fun _ => 0))), (q3, .inr (2, [.ref (u4 0), .int 10, .int 0])), ((u4 0), .inl (kc 0, 40, .inl (fun _ => 0)))]) := hD
  refine lv_aload_n F.1 F.2.1 d_Vi_30 rfl (lv_at hl 0 rfl) ?_
  refine lv_bipush (v := 8) F.1 F.2.1 d_Vi_31 (by decide) ?_
  refine rz_newI F (N := 8) rfl (by decide) (Nat.le_of_ble_eq_true rfl) (Nat.le_of_ble_eq_true rfl) hP hD hS d_Vi_33 (fun q5 H hP hD hS => ?_)
  refine W.widen (k := 5) (n := 94) (Nat.le_of_ble_eq_true rfl) (Nat.le_of_ble_eq_true rfl) ?_
  have hP : va_P D ra_cl ([(h0, .inr (1, [.ref q1, .ref q3, .null, .null, .null, .null, .null, .null, .int 0, .int 0, .int 0, .int 0])), (q1, .inr (2, [.ref (u2 0), .int 40, .int 0])), ((u2 0), .inl (kc 0, 40, .inl (fun _ => 0))), (q3, .inr (2, [.ref (u4 0), .int 10, .int 0])), ((u4 0), .inl (kc 0, 40, .inl (fun _ => 0))), (q5, .inl (kc 0, 8, .inl (fun _ => 0)))]) H := hP
  have hD : va_D A ([(h0, .inr (1, [.ref q1, .ref q3, .null, .null, .null, .null, .null, .null, .int 0, .int 0, .int 0, .int 0])), (q1, .inr (2, [.ref (u2 0), .int 40, .int 0])), ((u2 0), .inl (kc 0, 40, .inl (fun _ => 0))), (q3, .inr (2, [.ref (u4 0), .int 10, .int 0])), ((u4 0), .inl (kc 0, 40, .inl (fun _ => 0))), (q5, .inl (kc 0, 8, .inl (fun _ => 0)))]) := hD
  refine rz_putF F hin cg_V 0 rfl 2 (by decide) fl_V_23 rfl rfl rfl rfl (Nat.le_of_ble_eq_true rfl) hP hD hS d_Vi_35 (fun H locs hP hD hS => ?_)
  have hP : va_P D ra_cl ([(h0, .inr (1, [.ref q1, .ref q3, .ref q5, .null, .null, .null, .null, .null, .int 0, .int 0, .int 0, .int 0])), (q1, .inr (2, [.ref (u2 0), .int 40, .int 0])), ((u2 0), .inl (kc 0, 40, .inl (fun _ => 0))), (q3, .inr (2, [.ref (u4 0), .int 10, .int 0])), ((u4 0), .inl (kc 0, 40, .inl (fun _ => 0))), (q5, .inl (kc 0, 8, .inl (fun _ => 0)))]) H := hP
  have hD : va_D A ([(h0, .inr (1, [.ref q1, .ref q3, .ref q5, .null, .null, .null, .null, .null, .int 0, .int 0, .int 0, .int 0])), (q1, .inr (2, [.ref (u2 0), .int 40, .int 0])), ((u2 0), .inl (kc 0, 40, .inl (fun _ => 0))), (q3, .inr (2, [.ref (u4 0), .int 10, .int 0])), ((u4 0), .inl (kc 0, 40, .inl (fun _ => 0))), (q5, .inl (kc 0, 8, .inl (fun _ => 0)))]) := hD
  refine lv_aload_n F.1 F.2.1 d_Vi_38 rfl (lv_at hl 0 rfl) ?_
  refine lv_bipush (v := 8) F.1 F.2.1 d_Vi_39 (by decide) ?_
  refine rz_newI F (N := 8) rfl (by decide) (Nat.le_of_ble_eq_true rfl) (Nat.le_of_ble_eq_true rfl) hP hD hS d_Vi_41 (fun q6 H hP hD hS => ?_)
  refine W.widen (k := 6) (n := 102) (Nat.le_of_ble_eq_true rfl) (Nat.le_of_ble_eq_true rfl) ?_
  have hP : va_P D ra_cl ([(h0, .inr (1, [.ref q1, .ref q3, .ref q5, .null, .null, .null, .null, .null, .int 0, .int 0, .int 0, .int 0])), (q1, .inr (2, [.ref (u2 0), .int 40, .int 0])), ((u2 0), .inl (kc 0, 40, .inl (fun _ => 0))), (q3, .inr (2, [.ref (u4 0), .int 10, .int 0])), ((u4 0), .inl (kc 0, 40, .inl (fun _ => 0))), (q5, .inl (kc 0, 8, .inl (fun _ => 0))), (q6, .inl (kc 0, 8, .inl (fun _ => 0)))]) H := hP
  have hD : va_D A ([(h0, .inr (1, [.ref q1, .ref q3, .ref q5, .null, .null, .null, .null, .null, .int 0, .int 0, .int 0, .int 0])), (q1, .inr (2, [.ref (u2 0), .int 40, .int 0])), ((u2 0), .inl (kc 0, 40, .inl (fun _ => 0))), (q3, .inr (2, [.ref (u4 0), .int 10, .int 0])), ((u4 0), .inl (kc 0, 40, .inl (fun _ => 0))), (q5, .inl (kc 0, 8, .inl (fun _ => 0))), (q6, .inl (kc 0, 8, .inl (fun _ => 0)))]) := hD
  refine rz_putF F hin cg_V 0 rfl 3 (by decide) fl_V_27 rfl rfl rfl rfl (Nat.le_of_ble_eq_true rfl) hP hD hS d_Vi_43 (fun H locs hP hD hS => ?_)
  have hP : va_P D ra_cl ([(h0, .inr (1, [.ref q1, .ref q3, .ref q5, .ref q6, .null, .null, .null, .null, .int 0, .int 0, .int 0, .int 0])), (q1, .inr (2, [.ref (u2 0), .int 40, .int 0])), ((u2 0), .inl (kc 0, 40, .inl (fun _ => 0))), (q3, .inr (2, [.ref (u4 0), .int 10, .int 0])), ((u4 0), .inl (kc 0, 40, .inl (fun _ => 0))), (q5, .inl (kc 0, 8, .inl (fun _ => 0))), (q6, .inl (kc 0, 8, .inl (fun _ => 0)))]) H := hP
  have hD : va_D A ([(h0, .inr (1, [.ref q1, .ref q3, .ref q5, .ref q6, .null, .null, .null, .null, .int 0, .int 0, .int 0, .int 0])), (q1, .inr (2, [.ref (u2 0), .int 40, .int 0])), ((u2 0), .inl (kc 0, 40, .inl (fun _ => 0))), (q3, .inr (2, [.ref (u4 0), .int 10, .int 0])), ((u4 0), .inl (kc 0, 40, .inl (fun _ => 0))), (q5, .inl (kc 0, 8, .inl (fun _ => 0))), (q6, .inl (kc 0, 8, .inl (fun _ => 0)))]) := hD
  refine lv_aload_n F.1 F.2.1 d_Vi_46 rfl (lv_at hl 0 rfl) ?_
  refine lv_bipush (v := 8) F.1 F.2.1 d_Vi_47 (by decide) ?_
  refine rz_newI F (N := 8) rfl (by decide) (Nat.le_of_ble_eq_true rfl) (Nat.le_of_ble_eq_true rfl) hP hD hS d_Vi_49 (fun q7 H hP hD hS => ?_)
  refine W.widen (k := 7) (n := 110) (Nat.le_of_ble_eq_true rfl) (Nat.le_of_ble_eq_true rfl) ?_
  have hP : va_P D ra_cl ([(h0, .inr (1, [.ref q1, .ref q3, .ref q5, .ref q6, .null, .null, .null, .null, .int 0, .int 0, .int 0, .int 0])), (q1, .inr (2, [.ref (u2 0), .int 40, .int 0])), ((u2 0), .inl (kc 0, 40, .inl (fun _ => 0))), (q3, .inr (2, [.ref (u4 0), .int 10, .int 0])), ((u4 0), .inl (kc 0, 40, .inl (fun _ => 0))), (q5, .inl (kc 0, 8, .inl (fun _ => 0))), (q6, .inl (kc 0, 8, .inl (fun _ => 0))), (q7, .inl (kc 0, 8, .inl (fun _ => 0)))]) H := hP
  have hD : va_D A ([(h0, .inr (1, [.ref q1, .ref q3, .ref q5, .ref q6, .null, .null, .null, .null, .int 0, .int 0, .int 0, .int 0])), (q1, .inr (2, [.ref (u2 0), .int 40, .int 0])), ((u2 0), .inl (kc 0, 40, .inl (fun _ => 0))), (q3, .inr (2, [.ref (u4 0), .int 10, .int 0])), ((u4 0), .inl (kc 0, 40, .inl (fun _ => 0))), (q5, .inl (kc 0, 8, .inl (fun _ => 0))), (q6, .inl (kc 0, 8, .inl (fun _ => 0))), (q7, .inl (kc 0, 8, .inl (fun _ => 0)))]) := hD
  refine rz_putF F hin cg_V 0 rfl 4 (by decide) fl_V_30 rfl rfl rfl rfl (Nat.le_of_ble_eq_true rfl) hP hD hS d_Vi_51 (fun H locs hP hD hS => ?_)
  have hP : va_P D ra_cl ([(h0, .inr (1, [.ref q1, .ref q3, .ref q5, .ref q6, .ref q7, .null, .null, .null, .int 0, .int 0, .int 0, .int 0])), (q1, .inr (2, [.ref (u2 0), .int 40, .int 0])), ((u2 0), .inl (kc 0, 40, .inl (fun _ => 0))), (q3, .inr (2, [.ref (u4 0), .int 10, .int 0])), ((u4 0), .inl (kc 0, 40, .inl (fun _ => 0))), (q5, .inl (kc 0, 8, .inl (fun _ => 0))), (q6, .inl (kc 0, 8, .inl (fun _ => 0))), (q7, .inl (kc 0, 8, .inl (fun _ => 0)))]) H := hP
  have hD : va_D A ([(h0, .inr (1, [.ref q1, .ref q3, .ref q5, .ref q6, .ref q7, .null, .null, .null, .int 0, .int 0, .int 0, .int 0])), (q1, .inr (2, [.ref (u2 0), .int 40, .int 0])), ((u2 0), .inl (kc 0, 40, .inl (fun _ => 0))), (q3, .inr (2, [.ref (u4 0), .int 10, .int 0])), ((u4 0), .inl (kc 0, 40, .inl (fun _ => 0))), (q5, .inl (kc 0, 8, .inl (fun _ => 0))), (q6, .inl (kc 0, 8, .inl (fun _ => 0))), (q7, .inl (kc 0, 8, .inl (fun _ => 0)))]) := hD
  refine lv_aload_n F.1 F.2.1 d_Vi_54 rfl (lv_at hl 0 rfl) ?_
  refine lv_bipush (v := 8) F.1 F.2.1 d_Vi_55 (by decide) ?_
  refine rz_newI F (N := 8) rfl (by decide) (Nat.le_of_ble_eq_true rfl) (Nat.le_of_ble_eq_true rfl) hP hD hS d_Vi_57 (fun q8 H hP hD hS => ?_)
  refine W.widen (k := 8) (n := 118) (Nat.le_of_ble_eq_true rfl) (Nat.le_of_ble_eq_true rfl) ?_
  have hP : va_P D ra_cl ([(h0, .inr (1, [.ref q1, .ref q3, .ref q5, .ref q6, .ref q7, .null, .null, .null, .int 0, .int 0, .int 0, .int 0])), (q1, .inr (2, [.ref (u2 0), .int 40, .int 0])), ((u2 0), .inl (kc 0, 40, .inl (fun _ => 0))), (q3, .inr (2, [.ref (u4 0), .int 10, .int 0])), ((u4 0), .inl (kc 0, 40, .inl (fun _ => 0))), (q5, .inl (kc 0, 8, .inl (fun _ => 0))), (q6, .inl (kc 0, 8, .inl (fun _ => 0))), (q7, .inl (kc 0, 8, .inl (fun _ => 0))), (q8, .inl (kc 0, 8, .inl (fun _ => 0)))]) H := hP
  have hD : va_D A ([(h0, .inr (1, [.ref q1, .ref q3, .ref q5, .ref q6, .ref q7, .null, .null, .null, .int 0, .int 0, .int 0, .int 0])), (q1, .inr (2, [.ref (u2 0), .int 40, .int 0])), ((u2 0), .inl (kc 0, 40, .inl (fun _ => 0))), (q3, .inr (2, [.ref (u4 0), .int 10, .int 0])), ((u4 0), .inl (kc 0, 40, .inl (fun _ => 0))), (q5, .inl (kc 0, 8, .inl (fun _ => 0))), (q6, .inl (kc 0, 8, .inl (fun _ => 0))), (q7, .inl (kc 0, 8, .inl (fun _ => 0))), (q8, .inl (kc 0, 8, .inl (fun _ => 0)))]) := hD
  refine rz_putF F hin cg_V 0 rfl 5 (by decide) fl_V_33 rfl rfl rfl rfl (Nat.le_of_ble_eq_true rfl) hP hD hS d_Vi_59 (fun H locs hP hD hS => ?_)
  have hP : va_P D ra_cl ([(h0, .inr (1, [.ref q1, .ref q3, .ref q5, .ref q6, .ref q7, .ref q8, .null, .null, .int 0, .int 0, .int 0, .int 0])), (q1, .inr (2, [.ref (u2 0), .int 40, .int 0])), ((u2 0), .inl (kc 0, 40, .inl (fun _ => 0))), (q3, .inr (2, [.ref (u4 0), .int 10, .int 0])), ((u4 0), .inl (kc 0, 40, .inl (fun _ => 0))), (q5, .inl (kc 0, 8, .inl (fun _ => 0))), (q6, .inl (kc 0, 8, .inl (fun _ => 0))), (q7, .inl (kc 0, 8, .inl (fun _ => 0))), (q8, .inl (kc 0, 8, .inl (fun _ => 0)))]) H := hP
  have hD : va_D A ([(h0, .inr (1, [.ref q1, .ref q3, .ref q5, .ref q6, .ref q7, .ref q8, .null, .null, .int 0, .int 0, .int 0, .int 0])), (q1, .inr (2, [.ref (u2 0), .int 40, .int 0])), ((u2 0), .inl (kc 0, 40, .inl (fun _ => 0))), (q3, .inr (2, [.ref (u4 0), .int 10, .int 0])), ((u4 0), .inl (kc 0, 40, .inl (fun _ => 0))), (q5, .inl (kc 0, 8, .inl (fun _ => 0))), (q6, .inl (kc 0, 8, .inl (fun _ => 0))), (q7, .inl (kc 0, 8, .inl (fun _ => 0))), (q8, .inl (kc 0, 8, .inl (fun _ => 0)))]) := hD
  refine lv_aload_n F.1 F.2.1 d_Vi_62 rfl (lv_at hl 0 rfl) ?_
  refine lv_bipush (v := 8) F.1 F.2.1 d_Vi_63 (by decide) ?_
  refine rz_newI F (N := 8) rfl (by decide) (Nat.le_of_ble_eq_true rfl) (Nat.le_of_ble_eq_true rfl) hP hD hS d_Vi_65 (fun q9 H hP hD hS => ?_)
  refine W.widen (k := 9) (n := 126) (Nat.le_of_ble_eq_true rfl) (Nat.le_of_ble_eq_true rfl) ?_
  have hP : va_P D ra_cl ([(h0, .inr (1, [.ref q1, .ref q3, .ref q5, .ref q6, .ref q7, .ref q8, .null, .null, .int 0, .int 0, .int 0, .int 0])), (q1, .inr (2, [.ref (u2 0), .int 40, .int 0])), ((u2 0), .inl (kc 0, 40, .inl (fun _ => 0))), (q3, .inr (2, [.ref (u4 0), .int 10, .int 0])), ((u4 0), .inl (kc 0, 40, .inl (fun _ => 0))), (q5, .inl (kc 0, 8, .inl (fun _ => 0))), (q6, .inl (kc 0, 8, .inl (fun _ => 0))), (q7, .inl (kc 0, 8, .inl (fun _ => 0))), (q8, .inl (kc 0, 8, .inl (fun _ => 0))), (q9, .inl (kc 0, 8, .inl (fun _ => 0)))]) H := hP
  have hD : va_D A ([(h0, .inr (1, [.ref q1, .ref q3, .ref q5, .ref q6, .ref q7, .ref q8, .null, .null, .int 0, .int 0, .int 0, .int 0])), (q1, .inr (2, [.ref (u2 0), .int 40, .int 0])), ((u2 0), .inl (kc 0, 40, .inl (fun _ => 0))), (q3, .inr (2, [.ref (u4 0), .int 10, .int 0])), ((u4 0), .inl (kc 0, 40, .inl (fun _ => 0))), (q5, .inl (kc 0, 8, .inl (fun _ => 0))), (q6, .inl (kc 0, 8, .inl (fun _ => 0))), (q7, .inl (kc 0, 8, .inl (fun _ => 0))), (q8, .inl (kc 0, 8, .inl (fun _ => 0))), (q9, .inl (kc 0, 8, .inl (fun _ => 0)))]) := hD
  refine rz_putF F hin cg_V 0 rfl 6 (by decide) fl_V_36 rfl rfl rfl rfl (Nat.le_of_ble_eq_true rfl) hP hD hS d_Vi_67 (fun H locs hP hD hS => ?_)
  have hP : va_P D ra_cl ([(h0, .inr (1, [.ref q1, .ref q3, .ref q5, .ref q6, .ref q7, .ref q8, .ref q9, .null, .int 0, .int 0, .int 0, .int 0])), (q1, .inr (2, [.ref (u2 0), .int 40, .int 0])), ((u2 0), .inl (kc 0, 40, .inl (fun _ => 0))), (q3, .inr (2, [.ref (u4 0), .int 10, .int 0])), ((u4 0), .inl (kc 0, 40, .inl (fun _ => 0))), (q5, .inl (kc 0, 8, .inl (fun _ => 0))), (q6, .inl (kc 0, 8, .inl (fun _ => 0))), (q7, .inl (kc 0, 8, .inl (fun _ => 0))), (q8, .inl (kc 0, 8, .inl (fun _ => 0))), (q9, .inl (kc 0, 8, .inl (fun _ => 0)))]) H := hP
  have hD : va_D A ([(h0, .inr (1, [.ref q1, .ref q3, .ref q5, .ref q6, .ref q7, .ref q8, .ref q9, .null, .int 0, .int 0, .int 0, .int 0])), (q1, .inr (2, [.ref (u2 0), .int 40, .int 0])), ((u2 0), .inl (kc 0, 40, .inl (fun _ => 0))), (q3, .inr (2, [.ref (u4 0), .int 10, .int 0])), ((u4 0), .inl (kc 0, 40, .inl (fun _ => 0))), (q5, .inl (kc 0, 8, .inl (fun _ => 0))), (q6, .inl (kc 0, 8, .inl (fun _ => 0))), (q7, .inl (kc 0, 8, .inl (fun _ => 0))), (q8, .inl (kc 0, 8, .inl (fun _ => 0))), (q9, .inl (kc 0, 8, .inl (fun _ => 0)))]) := hD
  refine lv_aload_n F.1 F.2.1 d_Vi_70 rfl (lv_at hl 0 rfl) ?_
  refine lv_bipush (v := 8) F.1 F.2.1 d_Vi_71 (by decide) ?_
  refine rz_newI F (N := 8) rfl (by decide) (Nat.le_of_ble_eq_true rfl) (Nat.le_of_ble_eq_true rfl) hP hD hS d_Vi_73 (fun q10 H hP hD hS => ?_)
  refine W.widen (k := 10) (n := 134) (Nat.le_of_ble_eq_true rfl) (Nat.le_of_ble_eq_true rfl) ?_
  have hP : va_P D ra_cl ([(h0, .inr (1, [.ref q1, .ref q3, .ref q5, .ref q6, .ref q7, .ref q8, .ref q9, .null, .int 0, .int 0, .int 0, .int 0])), (q1, .inr (2, [.ref (u2 0), .int 40, .int 0])), ((u2 0), .inl (kc 0, 40, .inl (fun _ => 0))), (q3, .inr (2, [.ref (u4 0), .int 10, .int 0])), ((u4 0), .inl (kc 0, 40, .inl (fun _ => 0))), (q5, .inl (kc 0, 8, .inl (fun _ => 0))), (q6, .inl (kc 0, 8, .inl (fun _ => 0))), (q7, .inl (kc 0, 8, .inl (fun _ => 0))), (q8, .inl (kc 0, 8, .inl (fun _ => 0))), (q9, .inl (kc 0, 8, .inl (fun _ => 0))), (q10, .inl (kc 0, 8, .inl (fun _ => 0)))]) H := hP
  have hD : va_D A ([(h0, .inr (1, [.ref q1, .ref q3, .ref q5, .ref q6, .ref q7, .ref q8, .ref q9, .null, .int 0, .int 0, .int 0, .int 0])), (q1, .inr (2, [.ref (u2 0), .int 40, .int 0])), ((u2 0), .inl (kc 0, 40, .inl (fun _ => 0))), (q3, .inr (2, [.ref (u4 0), .int 10, .int 0])), ((u4 0), .inl (kc 0, 40, .inl (fun _ => 0))), (q5, .inl (kc 0, 8, .inl (fun _ => 0))), (q6, .inl (kc 0, 8, .inl (fun _ => 0))), (q7, .inl (kc 0, 8, .inl (fun _ => 0))), (q8, .inl (kc 0, 8, .inl (fun _ => 0))), (q9, .inl (kc 0, 8, .inl (fun _ => 0))), (q10, .inl (kc 0, 8, .inl (fun _ => 0)))]) := hD
  refine rz_putF F hin cg_V 0 rfl 7 (by decide) fl_V_39 rfl rfl rfl rfl (Nat.le_of_ble_eq_true rfl) hP hD hS d_Vi_75 (fun H locs hP hD hS => ?_)
  have hP : va_P D ra_cl ([(h0, .inr (1, [.ref q1, .ref q3, .ref q5, .ref q6, .ref q7, .ref q8, .ref q9, .ref q10, .int 0, .int 0, .int 0, .int 0])), (q1, .inr (2, [.ref (u2 0), .int 40, .int 0])), ((u2 0), .inl (kc 0, 40, .inl (fun _ => 0))), (q3, .inr (2, [.ref (u4 0), .int 10, .int 0])), ((u4 0), .inl (kc 0, 40, .inl (fun _ => 0))), (q5, .inl (kc 0, 8, .inl (fun _ => 0))), (q6, .inl (kc 0, 8, .inl (fun _ => 0))), (q7, .inl (kc 0, 8, .inl (fun _ => 0))), (q8, .inl (kc 0, 8, .inl (fun _ => 0))), (q9, .inl (kc 0, 8, .inl (fun _ => 0))), (q10, .inl (kc 0, 8, .inl (fun _ => 0)))]) H := hP
  have hD : va_D A ([(h0, .inr (1, [.ref q1, .ref q3, .ref q5, .ref q6, .ref q7, .ref q8, .ref q9, .ref q10, .int 0, .int 0, .int 0, .int 0])), (q1, .inr (2, [.ref (u2 0), .int 40, .int 0])), ((u2 0), .inl (kc 0, 40, .inl (fun _ => 0))), (q3, .inr (2, [.ref (u4 0), .int 10, .int 0])), ((u4 0), .inl (kc 0, 40, .inl (fun _ => 0))), (q5, .inl (kc 0, 8, .inl (fun _ => 0))), (q6, .inl (kc 0, 8, .inl (fun _ => 0))), (q7, .inl (kc 0, 8, .inl (fun _ => 0))), (q8, .inl (kc 0, 8, .inl (fun _ => 0))), (q9, .inl (kc 0, 8, .inl (fun _ => 0))), (q10, .inl (kc 0, 8, .inl (fun _ => 0)))]) := hD
  refine lv_aload_n F.1 F.2.1 d_Vi_78 rfl (lv_at hl 0 rfl) ?_
  refine lv_iconst (v := (-1)) F.1 F.2.1 d_Vi_79 (by decide) ?_
  refine rz_put F cg_V 0 rfl 9 (by decide) fl_V_42 rfl rfl rfl (Nat.le_of_ble_eq_true rfl) hP hD hS d_Vi_80 (fun H locs hP hD hS => ?_)
  have hP : va_P D ra_cl ([(h0, .inr (1, [.ref q1, .ref q3, .ref q5, .ref q6, .ref q7, .ref q8, .ref q9, .ref q10, .int 0, .int (-1), .int 0, .int 0])), (q1, .inr (2, [.ref (u2 0), .int 40, .int 0])), ((u2 0), .inl (kc 0, 40, .inl (fun _ => 0))), (q3, .inr (2, [.ref (u4 0), .int 10, .int 0])), ((u4 0), .inl (kc 0, 40, .inl (fun _ => 0))), (q5, .inl (kc 0, 8, .inl (fun _ => 0))), (q6, .inl (kc 0, 8, .inl (fun _ => 0))), (q7, .inl (kc 0, 8, .inl (fun _ => 0))), (q8, .inl (kc 0, 8, .inl (fun _ => 0))), (q9, .inl (kc 0, 8, .inl (fun _ => 0))), (q10, .inl (kc 0, 8, .inl (fun _ => 0)))]) H := hP
  have hD : va_D A ([(h0, .inr (1, [.ref q1, .ref q3, .ref q5, .ref q6, .ref q7, .ref q8, .ref q9, .ref q10, .int 0, .int (-1), .int 0, .int 0])), (q1, .inr (2, [.ref (u2 0), .int 40, .int 0])), ((u2 0), .inl (kc 0, 40, .inl (fun _ => 0))), (q3, .inr (2, [.ref (u4 0), .int 10, .int 0])), ((u4 0), .inl (kc 0, 40, .inl (fun _ => 0))), (q5, .inl (kc 0, 8, .inl (fun _ => 0))), (q6, .inl (kc 0, 8, .inl (fun _ => 0))), (q7, .inl (kc 0, 8, .inl (fun _ => 0))), (q8, .inl (kc 0, 8, .inl (fun _ => 0))), (q9, .inl (kc 0, 8, .inl (fun _ => 0))), (q10, .inl (kc 0, 8, .inl (fun _ => 0)))]) := hD
  refine lv_aload_n F.1 F.2.1 d_Vi_83 rfl (lv_at hl 0 rfl) ?_
  refine lv_iconst (v := (-1)) F.1 F.2.1 d_Vi_84 (by decide) ?_
  refine rz_put F cg_V 0 rfl 10 (by decide) fl_V_46 rfl rfl rfl (Nat.le_of_ble_eq_true rfl) hP hD hS d_Vi_85 (fun H locs hP hD hS => ?_)
  have hP : va_P D ra_cl ([(h0, .inr (1, [.ref q1, .ref q3, .ref q5, .ref q6, .ref q7, .ref q8, .ref q9, .ref q10, .int 0, .int (-1), .int (-1), .int 0])), (q1, .inr (2, [.ref (u2 0), .int 40, .int 0])), ((u2 0), .inl (kc 0, 40, .inl (fun _ => 0))), (q3, .inr (2, [.ref (u4 0), .int 10, .int 0])), ((u4 0), .inl (kc 0, 40, .inl (fun _ => 0))), (q5, .inl (kc 0, 8, .inl (fun _ => 0))), (q6, .inl (kc 0, 8, .inl (fun _ => 0))), (q7, .inl (kc 0, 8, .inl (fun _ => 0))), (q8, .inl (kc 0, 8, .inl (fun _ => 0))), (q9, .inl (kc 0, 8, .inl (fun _ => 0))), (q10, .inl (kc 0, 8, .inl (fun _ => 0)))]) H := hP
  have hD : va_D A ([(h0, .inr (1, [.ref q1, .ref q3, .ref q5, .ref q6, .ref q7, .ref q8, .ref q9, .ref q10, .int 0, .int (-1), .int (-1), .int 0])), (q1, .inr (2, [.ref (u2 0), .int 40, .int 0])), ((u2 0), .inl (kc 0, 40, .inl (fun _ => 0))), (q3, .inr (2, [.ref (u4 0), .int 10, .int 0])), ((u4 0), .inl (kc 0, 40, .inl (fun _ => 0))), (q5, .inl (kc 0, 8, .inl (fun _ => 0))), (q6, .inl (kc 0, 8, .inl (fun _ => 0))), (q7, .inl (kc 0, 8, .inl (fun _ => 0))), (q8, .inl (kc 0, 8, .inl (fun _ => 0))), (q9, .inl (kc 0, 8, .inl (fun _ => 0))), (q10, .inl (kc 0, 8, .inl (fun _ => 0)))]) := hD
  have hP9 := hP.sub (ws' := w_Vi kc h0 (fun j => [q1, u2 0, q3, u4 0, q5, q6, q7, q8, q9, q10].getD j 0)) [0, 1, 2, 3, 4, 5, 6, 7, 8, 9, 10] rfl
  have hD9 := hD.sub (ws' := w_Vi kc h0 (fun j => [q1, u2 0, q3, u4 0, q5, q6, q7, q8, q9, q10].getD j 0)) [0, 1, 2, 3, 4, 5, 6, 7, 8, 9, 10] (by decide) rfl
  exact rz_ret (w := w_Vi kc h0) F hr hlk (fun j => [q1, u2 0, q3, u4 0, q5, q6, q7, q8, q9, q10].getD j 0) hP9 hD9 hS (Nat.le_of_ble_eq_true rfl) (Nat.le_of_ble_eq_true rfl) d_Vi_88
/-! RoofAcross$Weather() -/
def rm_Wti : Room := { frames := 1, cells := 1, slots := 12, locals := 64 }
abbrev mi_Wti : ra_MI := (⟨cn_Wt, "<init>", "()V"⟩, prog_11_method_1_code, 1, none, rm_Wti, 1)
set_option maxRecDepth 100000 in
theorem jc_Wti : Cond.code (mi_Wti).1 (mi_Wti).2.1 (mi_Wti).2.2.1 (mi_Wti).2.2.2.1 ∈ ra_WS := ra_in 184 (by decide +kernel) (by decide +kernel)
set_option maxRecDepth 100000 in
theorem ji_Wti : Cond.initialized (mi_Wti).1.cls ∈ ra_WS := ra_in 65 (by decide +kernel) (by decide +kernel)
set_option maxRecDepth 100000 in
theorem jm_Wti : Cond.instanceMethod (mi_Wti).1 ∈ ra_WS := ra_in 183 (by decide +kernel) (by decide +kernel)
set_option maxRecDepth 100000 in
theorem jn_Wti : Cond.instantiable cn_Wt 5 ∈ ra_WS := ra_in 181 (by decide +kernel) (by decide +kernel)
set_option maxRecDepth 100000 in
theorem ml_Wti_3 : Cond.methodLink cn_Wt 3 Lib.objectInit ∈ ra_WS := ra_in 185 (by decide +kernel) (by decide +kernel)
theorem d_Wti_0 : decode prog_11_method_1_code 0 = .ok (.aload_n 0, 1) := by decide +kernel
theorem d_Wti_1 : decode prog_11_method_1_code 1 = .ok (.invokespecial 3, 3) := by decide +kernel
theorem d_Wti_4 : decode prog_11_method_1_code 4 = .ok (.aload_n 0, 1) := by decide +kernel
theorem d_Wti_5 : decode prog_11_method_1_code 5 = .ok (.bipush 12, 2) := by decide +kernel
theorem d_Wti_7 : decode prog_11_method_1_code 7 = .ok (.newarray .int, 2) := by decide +kernel
theorem d_Wti_9 : decode prog_11_method_1_code 9 = .ok (.putfield 9, 3) := by decide +kernel
theorem d_Wti_12 : decode prog_11_method_1_code 12 = .ok (.aload_n 0, 1) := by decide +kernel
theorem d_Wti_13 : decode prog_11_method_1_code 13 = .ok (.iconst 1, 1) := by decide +kernel
theorem d_Wti_14 : decode prog_11_method_1_code 14 = .ok (.putfield 15, 3) := by decide +kernel
theorem d_Wti_17 : decode prog_11_method_1_code 17 = .ok (.return_, 1) := by decide +kernel
def w_Wti (kc : Nat → ClassId) (h0 : Nat) (q : Nat → Nat) : va_W := [(h0, .inr (3, [.ref (q 0), .int 0, .int 1, .int 0, .int 0])), ((q 0), .inl (kc 0, 12, .inl (fun _ => 0)))]
set_option maxHeartbeats 4000000 in
set_option maxRecDepth 100000 in
theorem c_Wti {l : Launch} {D : va_G} (kc : Nat → ClassId) (h0 : Nat) : rz_M l D kc mi_Wti h0 3 [.null, .int 0, .int 0, .int 0, .int 0] [] (w_Wti kc h0) := by
  refine rz_enter cn_Wt rfl rfl rfl (by decide +kernel) (Nat.le_of_ble_eq_true rfl) ?_
  intro p e s m below meth c ls A F hin hr hlk hP hD hl
  have hl : lv_has ls 1 [(0, .ref h0)] := hl
  have hS : va_S A s.heap s.heap [] := va_S.rf
  refine lv_aload_n F.1 F.2.1 d_Wti_0 rfl (lv_at hl 0 rfl) ?_
  refine rz_obj F ml_Wti_3 hl (by decide) (Nat.le_of_ble_eq_true rfl) d_Wti_1 ?_
  refine lv_aload_n F.1 F.2.1 d_Wti_4 rfl (lv_at hl 0 rfl) ?_
  refine lv_bipush (v := 12) F.1 F.2.1 d_Wti_5 (by decide) ?_
  refine rz_newI F (N := 12) rfl (by decide) (Nat.le_of_ble_eq_true rfl) (Nat.le_of_ble_eq_true rfl) hP hD hS d_Wti_7 (fun q1 H hP hD hS => ?_)
  refine W.widen (k := 1) (n := 12) (Nat.le_of_ble_eq_true rfl) (Nat.le_of_ble_eq_true rfl) ?_
  have hP : va_P D ra_cl ([(h0, .inr (3, [.null, .int 0, .int 0, .int 0, .int 0])), (q1, .inl (kc 0, 12, .inl (fun _ => 0)))]) H := hP
  have hD : va_D A ([(h0, .inr (3, [.null, .int 0, .int 0, .int 0, .int 0])), (q1, .inl (kc 0, 12, .inl (fun _ => 0)))]) := hD
  refine rz_putF F hin cg_Wt 0 rfl 0 (by decide) fl_Wt_9 rfl rfl rfl rfl (Nat.le_of_ble_eq_true rfl) hP hD hS d_Wti_9 (fun H locs hP hD hS => ?_)
  have hP : va_P D ra_cl ([(h0, .inr (3, [.ref q1, .int 0, .int 0, .int 0, .int 0])), (q1, .inl (kc 0, 12, .inl (fun _ => 0)))]) H := hP
  have hD : va_D A ([(h0, .inr (3, [.ref q1, .int 0, .int 0, .int 0, .int 0])), (q1, .inl (kc 0, 12, .inl (fun _ => 0)))]) := hD
  refine lv_aload_n F.1 F.2.1 d_Wti_12 rfl (lv_at hl 0 rfl) ?_
  refine lv_iconst (v := 1) F.1 F.2.1 d_Wti_13 (by decide) ?_
  refine rz_put F cg_Wt 0 rfl 2 (by decide) fl_Wt_15 rfl rfl rfl (Nat.le_of_ble_eq_true rfl) hP hD hS d_Wti_14 (fun H locs hP hD hS => ?_)
  have hP : va_P D ra_cl ([(h0, .inr (3, [.ref q1, .int 0, .int 1, .int 0, .int 0])), (q1, .inl (kc 0, 12, .inl (fun _ => 0)))]) H := hP
  have hD : va_D A ([(h0, .inr (3, [.ref q1, .int 0, .int 1, .int 0, .int 0])), (q1, .inl (kc 0, 12, .inl (fun _ => 0)))]) := hD
  have hP9 := hP.sub (ws' := w_Wti kc h0 (fun j => [q1].getD j 0)) [0, 1] rfl
  have hD9 := hD.sub (ws' := w_Wti kc h0 (fun j => [q1].getD j 0)) [0, 1] (by decide) rfl
  exact rz_ret (w := w_Wti kc h0) F hr hlk (fun j => [q1].getD j 0) hP9 hD9 hS (Nat.le_of_ble_eq_true rfl) (Nat.le_of_ble_eq_true rfl) d_Wti_17
/-! RoofAcross$Course() -/
def rm_Coi : Room := { frames := 1, cells := 7, slots := 56, locals := 64 }
abbrev mi_Coi : ra_MI := (⟨cn_Co, "<init>", "(LRoofAcross$Village;LRoofAcross$Weather;)V"⟩, prog_2_method_1_code, 3, none, rm_Coi, 3)
set_option maxRecDepth 100000 in
theorem jc_Coi : Cond.code (mi_Coi).1 (mi_Coi).2.1 (mi_Coi).2.2.1 (mi_Coi).2.2.2.1 ∈ ra_WS := ra_in 227 (by decide +kernel) (by decide +kernel)
set_option maxRecDepth 100000 in
theorem ji_Coi : Cond.initialized (mi_Coi).1.cls ∈ ra_WS := ra_in 67 (by decide +kernel) (by decide +kernel)
set_option maxRecDepth 100000 in
theorem jm_Coi : Cond.instanceMethod (mi_Coi).1 ∈ ra_WS := ra_in 226 (by decide +kernel) (by decide +kernel)
set_option maxRecDepth 100000 in
theorem jn_Coi : Cond.instantiable cn_Co 11 ∈ ra_WS := ra_in 224 (by decide +kernel) (by decide +kernel)
set_option maxRecDepth 100000 in
theorem ml_Coi_3 : Cond.methodLink cn_Co 3 Lib.objectInit ∈ ra_WS := ra_in 228 (by decide +kernel) (by decide +kernel)
theorem d_Coi_0 : decode prog_2_method_1_code 0 = .ok (.aload_n 0, 1) := by decide +kernel
theorem d_Coi_1 : decode prog_2_method_1_code 1 = .ok (.invokespecial 3, 3) := by decide +kernel
theorem d_Coi_4 : decode prog_2_method_1_code 4 = .ok (.aload_n 0, 1) := by decide +kernel
theorem d_Coi_5 : decode prog_2_method_1_code 5 = .ok (.bipush 8, 2) := by decide +kernel
theorem d_Coi_7 : decode prog_2_method_1_code 7 = .ok (.newarray .int, 2) := by decide +kernel
theorem d_Coi_9 : decode prog_2_method_1_code 9 = .ok (.putfield 9, 3) := by decide +kernel
theorem d_Coi_12 : decode prog_2_method_1_code 12 = .ok (.aload_n 0, 1) := by decide +kernel
theorem d_Coi_13 : decode prog_2_method_1_code 13 = .ok (.bipush 8, 2) := by decide +kernel
theorem d_Coi_15 : decode prog_2_method_1_code 15 = .ok (.newarray .int, 2) := by decide +kernel
theorem d_Coi_17 : decode prog_2_method_1_code 17 = .ok (.putfield 15, 3) := by decide +kernel
theorem d_Coi_20 : decode prog_2_method_1_code 20 = .ok (.aload_n 0, 1) := by decide +kernel
theorem d_Coi_21 : decode prog_2_method_1_code 21 = .ok (.bipush 8, 2) := by decide +kernel
theorem d_Coi_23 : decode prog_2_method_1_code 23 = .ok (.newarray .int, 2) := by decide +kernel
theorem d_Coi_25 : decode prog_2_method_1_code 25 = .ok (.putfield 18, 3) := by decide +kernel
theorem d_Coi_28 : decode prog_2_method_1_code 28 = .ok (.aload_n 0, 1) := by decide +kernel
theorem d_Coi_29 : decode prog_2_method_1_code 29 = .ok (.bipush 8, 2) := by decide +kernel
theorem d_Coi_31 : decode prog_2_method_1_code 31 = .ok (.newarray .int, 2) := by decide +kernel
theorem d_Coi_33 : decode prog_2_method_1_code 33 = .ok (.putfield 21, 3) := by decide +kernel
theorem d_Coi_36 : decode prog_2_method_1_code 36 = .ok (.aload_n 0, 1) := by decide +kernel
theorem d_Coi_37 : decode prog_2_method_1_code 37 = .ok (.bipush 8, 2) := by decide +kernel
theorem d_Coi_39 : decode prog_2_method_1_code 39 = .ok (.newarray .int, 2) := by decide +kernel
theorem d_Coi_41 : decode prog_2_method_1_code 41 = .ok (.putfield 24, 3) := by decide +kernel
theorem d_Coi_44 : decode prog_2_method_1_code 44 = .ok (.aload_n 0, 1) := by decide +kernel
theorem d_Coi_45 : decode prog_2_method_1_code 45 = .ok (.bipush 8, 2) := by decide +kernel
theorem d_Coi_47 : decode prog_2_method_1_code 47 = .ok (.newarray .int, 2) := by decide +kernel
theorem d_Coi_49 : decode prog_2_method_1_code 49 = .ok (.putfield 27, 3) := by decide +kernel
theorem d_Coi_52 : decode prog_2_method_1_code 52 = .ok (.aload_n 0, 1) := by decide +kernel
theorem d_Coi_53 : decode prog_2_method_1_code 53 = .ok (.bipush 8, 2) := by decide +kernel
theorem d_Coi_55 : decode prog_2_method_1_code 55 = .ok (.newarray .int, 2) := by decide +kernel
theorem d_Coi_57 : decode prog_2_method_1_code 57 = .ok (.putfield 30, 3) := by decide +kernel
theorem d_Coi_60 : decode prog_2_method_1_code 60 = .ok (.aload_n 0, 1) := by decide +kernel
theorem d_Coi_61 : decode prog_2_method_1_code 61 = .ok (.aload_n 1, 1) := by decide +kernel
theorem d_Coi_62 : decode prog_2_method_1_code 62 = .ok (.putfield 33, 3) := by decide +kernel
theorem d_Coi_65 : decode prog_2_method_1_code 65 = .ok (.aload_n 0, 1) := by decide +kernel
theorem d_Coi_66 : decode prog_2_method_1_code 66 = .ok (.aload_n 2, 1) := by decide +kernel
theorem d_Coi_67 : decode prog_2_method_1_code 67 = .ok (.putfield 37, 3) := by decide +kernel
theorem d_Coi_70 : decode prog_2_method_1_code 70 = .ok (.return_, 1) := by decide +kernel
def w_Coi (kc : Nat → ClassId) (h0 : Nat) (a1 : Nat) (a2 : Nat) (q : Nat → Nat) : va_W := [(h0, .inr (4, [.ref a1, .ref a2, .ref (q 0), .ref (q 1), .ref (q 2), .ref (q 3), .ref (q 4), .ref (q 5), .ref (q 6), .int 0, .int 0])), ((q 0), .inl (kc 0, 8, .inl (fun _ => 0))), ((q 1), .inl (kc 0, 8, .inl (fun _ => 0))), ((q 2), .inl (kc 0, 8, .inl (fun _ => 0))), ((q 3), .inl (kc 0, 8, .inl (fun _ => 0))), ((q 4), .inl (kc 0, 8, .inl (fun _ => 0))), ((q 5), .inl (kc 0, 8, .inl (fun _ => 0))), ((q 6), .inl (kc 0, 8, .inl (fun _ => 0)))]
set_option maxHeartbeats 4000000 in
set_option maxRecDepth 100000 in
theorem c_Coi {l : Launch} {D : va_G} (kc : Nat → ClassId) (h0 : Nat) (a1 : Nat) (a2 : Nat) : rz_M l D kc mi_Coi h0 4 [.null, .null, .null, .null, .null, .null, .null, .null, .null, .int 0, .int 0] [.ref a1, .ref a2] (w_Coi kc h0 a1 a2) := by
  refine rz_enter cn_Co rfl rfl rfl (by decide +kernel) (Nat.le_of_ble_eq_true rfl) ?_
  intro p e s m below meth c ls A F hin hr hlk hP hD hl
  have hl : lv_has ls 3 [(0, .ref h0), (1, .ref a1), (2, .ref a2)] := hl
  have hS : va_S A s.heap s.heap [] := va_S.rf
  refine lv_aload_n F.1 F.2.1 d_Coi_0 rfl (lv_at hl 0 rfl) ?_
  refine rz_obj F ml_Coi_3 hl (by decide) (Nat.le_of_ble_eq_true rfl) d_Coi_1 ?_
  refine lv_aload_n F.1 F.2.1 d_Coi_4 rfl (lv_at hl 0 rfl) ?_
  refine lv_bipush (v := 8) F.1 F.2.1 d_Coi_5 (by decide) ?_
  refine rz_newI F (N := 8) rfl (by decide) (Nat.le_of_ble_eq_true rfl) (Nat.le_of_ble_eq_true rfl) hP hD hS d_Coi_7 (fun q1 H hP hD hS => ?_)
  refine W.widen (k := 1) (n := 8) (Nat.le_of_ble_eq_true rfl) (Nat.le_of_ble_eq_true rfl) ?_
  have hP : va_P D ra_cl ([(h0, .inr (4, [.null, .null, .null, .null, .null, .null, .null, .null, .null, .int 0, .int 0])), (q1, .inl (kc 0, 8, .inl (fun _ => 0)))]) H := hP
  have hD : va_D A ([(h0, .inr (4, [.null, .null, .null, .null, .null, .null, .null, .null, .null, .int 0, .int 0])), (q1, .inl (kc 0, 8, .inl (fun _ => 0)))]) := hD
  refine rz_putF F hin cg_Co 0 rfl 2 (by decide) fl_Co_9 rfl rfl rfl rfl (Nat.le_of_ble_eq_true rfl) hP hD hS d_Coi_9 (fun H locs hP hD hS => ?_)
  have hP : va_P D ra_cl ([(h0, .inr (4, [.null, .null, .ref q1, .null, .null, .null, .null, .null, .null, .int 0, .int 0])), (q1, .inl (kc 0, 8, .inl (fun _ => 0)))]) H := hP
  have hD : va_D A ([(h0, .inr (4, [.null, .null, .ref q1, .null, .null, .null, .null, .null, .null, .int 0, .int 0])), (q1, .inl (kc 0, 8, .inl (fun _ => 0)))]) := hD
  refine lv_aload_n F.1 F.2.1 d_Coi_12 rfl (lv_at hl 0 rfl) ?_
  refine lv_bipush (v := 8) F.1 F.2.1 d_Coi_13 (by decide) ?_
  refine rz_newI F (N := 8) rfl (by decide) (Nat.le_of_ble_eq_true rfl) (Nat.le_of_ble_eq_true rfl) hP hD hS d_Coi_15 (fun q2 H hP hD hS => ?_)
  refine W.widen (k := 2) (n := 16) (Nat.le_of_ble_eq_true rfl) (Nat.le_of_ble_eq_true rfl) ?_
  have hP : va_P D ra_cl ([(h0, .inr (4, [.null, .null, .ref q1, .null, .null, .null, .null, .null, .null, .int 0, .int 0])), (q1, .inl (kc 0, 8, .inl (fun _ => 0))), (q2, .inl (kc 0, 8, .inl (fun _ => 0)))]) H := hP
  have hD : va_D A ([(h0, .inr (4, [.null, .null, .ref q1, .null, .null, .null, .null, .null, .null, .int 0, .int 0])), (q1, .inl (kc 0, 8, .inl (fun _ => 0))), (q2, .inl (kc 0, 8, .inl (fun _ => 0)))]) := hD
  refine rz_putF F hin cg_Co 0 rfl 3 (by decide) fl_Co_15 rfl rfl rfl rfl (Nat.le_of_ble_eq_true rfl) hP hD hS d_Coi_17 (fun H locs hP hD hS => ?_)
  have hP : va_P D ra_cl ([(h0, .inr (4, [.null, .null, .ref q1, .ref q2, .null, .null, .null, .null, .null, .int 0, .int 0])), (q1, .inl (kc 0, 8, .inl (fun _ => 0))), (q2, .inl (kc 0, 8, .inl (fun _ => 0)))]) H := hP
  have hD : va_D A ([(h0, .inr (4, [.null, .null, .ref q1, .ref q2, .null, .null, .null, .null, .null, .int 0, .int 0])), (q1, .inl (kc 0, 8, .inl (fun _ => 0))), (q2, .inl (kc 0, 8, .inl (fun _ => 0)))]) := hD
  refine lv_aload_n F.1 F.2.1 d_Coi_20 rfl (lv_at hl 0 rfl) ?_
  refine lv_bipush (v := 8) F.1 F.2.1 d_Coi_21 (by decide) ?_
  refine rz_newI F (N := 8) rfl (by decide) (Nat.le_of_ble_eq_true rfl) (Nat.le_of_ble_eq_true rfl) hP hD hS d_Coi_23 (fun q3 H hP hD hS => ?_)
  refine W.widen (k := 3) (n := 24) (Nat.le_of_ble_eq_true rfl) (Nat.le_of_ble_eq_true rfl) ?_
  have hP : va_P D ra_cl ([(h0, .inr (4, [.null, .null, .ref q1, .ref q2, .null, .null, .null, .null, .null, .int 0, .int 0])), (q1, .inl (kc 0, 8, .inl (fun _ => 0))), (q2, .inl (kc 0, 8, .inl (fun _ => 0))), (q3, .inl (kc 0, 8, .inl (fun _ => 0)))]) H := hP
  have hD : va_D A ([(h0, .inr (4, [.null, .null, .ref q1, .ref q2, .null, .null, .null, .null, .null, .int 0, .int 0])), (q1, .inl (kc 0, 8, .inl (fun _ => 0))), (q2, .inl (kc 0, 8, .inl (fun _ => 0))), (q3, .inl (kc 0, 8, .inl (fun _ => 0)))]) := hD
  refine rz_putF F hin cg_Co 0 rfl 4 (by decide) fl_Co_18 rfl rfl rfl rfl (Nat.le_of_ble_eq_true rfl) hP hD hS d_Coi_25 (fun H locs hP hD hS => ?_)
  have hP : va_P D ra_cl ([(h0, .inr (4, [.null, .null, .ref q1, .ref q2, .ref q3, .null, .null, .null, .null, .int 0, .int 0])), (q1, .inl (kc 0, 8, .inl (fun _ => 0))), (q2, .inl (kc 0, 8, .inl (fun _ => 0))), (q3, .inl (kc 0, 8, .inl (fun _ => 0)))]) H := hP
  have hD : va_D A ([(h0, .inr (4, [.null, .null, .ref q1, .ref q2, .ref q3, .null, .null, .null, .null, .int 0, .int 0])), (q1, .inl (kc 0, 8, .inl (fun _ => 0))), (q2, .inl (kc 0, 8, .inl (fun _ => 0))), (q3, .inl (kc 0, 8, .inl (fun _ => 0)))]) := hD
  refine lv_aload_n F.1 F.2.1 d_Coi_28 rfl (lv_at hl 0 rfl) ?_
  refine lv_bipush (v := 8) F.1 F.2.1 d_Coi_29 (by decide) ?_
  refine rz_newI F (N := 8) rfl (by decide) (Nat.le_of_ble_eq_true rfl) (Nat.le_of_ble_eq_true rfl) hP hD hS d_Coi_31 (fun q4 H hP hD hS => ?_)
  refine W.widen (k := 4) (n := 32) (Nat.le_of_ble_eq_true rfl) (Nat.le_of_ble_eq_true rfl) ?_
  have hP : va_P D ra_cl ([(h0, .inr (4, [.null, .null, .ref q1, .ref q2, .ref q3, .null, .null, .null, .null, .int 0, .int 0])), (q1, .inl (kc 0, 8, .inl (fun _ => 0))), (q2, .inl (kc 0, 8, .inl (fun _ => 0))), (q3, .inl (kc 0, 8, .inl (fun _ => 0))), (q4, .inl (kc 0, 8, .inl (fun _ => 0)))]) H := hP
  have hD : va_D A ([(h0, .inr (4, [.null, .null, .ref q1, .ref q2, .ref q3, .null, .null, .null, .null, .int 0, .int 0])), (q1, .inl (kc 0, 8, .inl (fun _ => 0))), (q2, .inl (kc 0, 8, .inl (fun _ => 0))), (q3, .inl (kc 0, 8, .inl (fun _ => 0))), (q4, .inl (kc 0, 8, .inl (fun _ => 0)))]) := hD
  refine rz_putF F hin cg_Co 0 rfl 5 (by decide) fl_Co_21 rfl rfl rfl rfl (Nat.le_of_ble_eq_true rfl) hP hD hS d_Coi_33 (fun H locs hP hD hS => ?_)
  have hP : va_P D ra_cl ([(h0, .inr (4, [.null, .null, .ref q1, .ref q2, .ref q3, .ref q4, .null, .null, .null, .int 0, .int 0])), (q1, .inl (kc 0, 8, .inl (fun _ => 0))), (q2, .inl (kc 0, 8, .inl (fun _ => 0))), (q3, .inl (kc 0, 8, .inl (fun _ => 0))), (q4, .inl (kc 0, 8, .inl (fun _ => 0)))]) H := hP
  have hD : va_D A ([(h0, .inr (4, [.null, .null, .ref q1, .ref q2, .ref q3, .ref q4, .null, .null, .null, .int 0, .int 0])), (q1, .inl (kc 0, 8, .inl (fun _ => 0))), (q2, .inl (kc 0, 8, .inl (fun _ => 0))), (q3, .inl (kc 0, 8, .inl (fun _ => 0))), (q4, .inl (kc 0, 8, .inl (fun _ => 0)))]) := hD
  refine lv_aload_n F.1 F.2.1 d_Coi_36 rfl (lv_at hl 0 rfl) ?_
  refine lv_bipush (v := 8) F.1 F.2.1 d_Coi_37 (by decide) ?_
  refine rz_newI F (N := 8) rfl (by decide) (Nat.le_of_ble_eq_true rfl) (Nat.le_of_ble_eq_true rfl) hP hD hS d_Coi_39 (fun q5 H hP hD hS => ?_)
  refine W.widen (k := 5) (n := 40) (Nat.le_of_ble_eq_true rfl) (Nat.le_of_ble_eq_true rfl) ?_
  have hP : va_P D ra_cl ([(h0, .inr (4, [.null, .null, .ref q1, .ref q2, .ref q3, .ref q4, .null, .null, .null, .int 0, .int 0])), (q1, .inl (kc 0, 8, .inl (fun _ => 0))), (q2, .inl (kc 0, 8, .inl (fun _ => 0))), (q3, .inl (kc 0, 8, .inl (fun _ => 0))), (q4, .inl (kc 0, 8, .inl (fun _ => 0))), (q5, .inl (kc 0, 8, .inl (fun _ => 0)))]) H := hP
  have hD : va_D A ([(h0, .inr (4, [.null, .null, .ref q1, .ref q2, .ref q3, .ref q4, .null, .null, .null, .int 0, .int 0])), (q1, .inl (kc 0, 8, .inl (fun _ => 0))), (q2, .inl (kc 0, 8, .inl (fun _ => 0))), (q3, .inl (kc 0, 8, .inl (fun _ => 0))), (q4, .inl (kc 0, 8, .inl (fun _ => 0))), (q5, .inl (kc 0, 8, .inl (fun _ => 0)))]) := hD
  refine rz_putF F hin cg_Co 0 rfl 6 (by decide) fl_Co_24 rfl rfl rfl rfl (Nat.le_of_ble_eq_true rfl) hP hD hS d_Coi_41 (fun H locs hP hD hS => ?_)
  have hP : va_P D ra_cl ([(h0, .inr (4, [.null, .null, .ref q1, .ref q2, .ref q3, .ref q4, .ref q5, .null, .null, .int 0, .int 0])), (q1, .inl (kc 0, 8, .inl (fun _ => 0))), (q2, .inl (kc 0, 8, .inl (fun _ => 0))), (q3, .inl (kc 0, 8, .inl (fun _ => 0))), (q4, .inl (kc 0, 8, .inl (fun _ => 0))), (q5, .inl (kc 0, 8, .inl (fun _ => 0)))]) H := hP
  have hD : va_D A ([(h0, .inr (4, [.null, .null, .ref q1, .ref q2, .ref q3, .ref q4, .ref q5, .null, .null, .int 0, .int 0])), (q1, .inl (kc 0, 8, .inl (fun _ => 0))), (q2, .inl (kc 0, 8, .inl (fun _ => 0))), (q3, .inl (kc 0, 8, .inl (fun _ => 0))), (q4, .inl (kc 0, 8, .inl (fun _ => 0))), (q5, .inl (kc 0, 8, .inl (fun _ => 0)))]) := hD
  refine lv_aload_n F.1 F.2.1 d_Coi_44 rfl (lv_at hl 0 rfl) ?_
  refine lv_bipush (v := 8) F.1 F.2.1 d_Coi_45 (by decide) ?_
  refine rz_newI F (N := 8) rfl (by decide) (Nat.le_of_ble_eq_true rfl) (Nat.le_of_ble_eq_true rfl) hP hD hS d_Coi_47 (fun q6 H hP hD hS => ?_)
  refine W.widen (k := 6) (n := 48) (Nat.le_of_ble_eq_true rfl) (Nat.le_of_ble_eq_true rfl) ?_
  have hP : va_P D ra_cl ([(h0, .inr (4, [.null, .null, .ref q1, .ref q2, .ref q3, .ref q4, .ref q5, .null, .null, .int 0, .int 0])), (q1, .inl (kc 0, 8, .inl (fun _ => 0))), (q2, .inl (kc 0, 8, .inl (fun _ => 0))), (q3, .inl (kc 0, 8, .inl (fun _ => 0))), (q4, .inl (kc 0, 8, .inl (fun _ => 0))), (q5, .inl (kc 0, 8, .inl (fun _ => 0))), (q6, .inl (kc 0, 8, .inl (fun _ => 0)))]) H := hP
  have hD : va_D A ([(h0, .inr (4, [.null, .null, .ref q1, .ref q2, .ref q3, .ref q4, .ref q5, .null, .null, .int 0, .int 0])), (q1, .inl (kc 0, 8, .inl (fun _ => 0))), (q2, .inl (kc 0, 8, .inl (fun _ => 0))), (q3, .inl (kc 0, 8, .inl (fun _ => 0))), (q4, .inl (kc 0, 8, .inl (fun _ => 0))), (q5, .inl (kc 0, 8, .inl (fun _ => 0))), (q6, .inl (kc 0, 8, .inl (fun _ => 0)))]) := hD
  refine rz_putF F hin cg_Co 0 rfl 7 (by decide) fl_Co_27 rfl rfl rfl rfl (Nat.le_of_ble_eq_true rfl) hP hD hS d_Coi_49 (fun H locs hP hD hS => ?_)
  have hP : va_P D ra_cl ([(h0, .inr (4, [.null, .null, .ref q1, .ref q2, .ref q3, .ref q4, .ref q5, .ref q6, .null, .int 0, .int 0])), (q1, .inl (kc 0, 8, .inl (fun _ => 0))), (q2, .inl (kc 0, 8, .inl (fun _ => 0))), (q3, .inl (kc 0, 8, .inl (fun _ => 0))), (q4, .inl (kc 0, 8, .inl (fun _ => 0))), (q5, .inl (kc 0, 8, .inl (fun _ => 0))), (q6, .inl (kc 0, 8, .inl (fun _ => 0)))]) H := hP
  have hD : va_D A ([(h0, .inr (4, [.null, .null, .ref q1, .ref q2, .ref q3, .ref q4, .ref q5, .ref q6, .null, .int 0, .int 0])), (q1, .inl (kc 0, 8, .inl (fun _ => 0))), (q2, .inl (kc 0, 8, .inl (fun _ => 0))), (q3, .inl (kc 0, 8, .inl (fun _ => 0))), (q4, .inl (kc 0, 8, .inl (fun _ => 0))), (q5, .inl (kc 0, 8, .inl (fun _ => 0))), (q6, .inl (kc 0, 8, .inl (fun _ => 0)))]) := hD
  refine lv_aload_n F.1 F.2.1 d_Coi_52 rfl (lv_at hl 0 rfl) ?_
  refine lv_bipush (v := 8) F.1 F.2.1 d_Coi_53 (by decide) ?_
  refine rz_newI F (N := 8) rfl (by decide) (Nat.le_of_ble_eq_true rfl) (Nat.le_of_ble_eq_true rfl) hP hD hS d_Coi_55 (fun q7 H hP hD hS => ?_)
  refine W.widen (k := 7) (n := 56) (Nat.le_of_ble_eq_true rfl) (Nat.le_of_ble_eq_true rfl) ?_
  have hP : va_P D ra_cl ([(h0, .inr (4, [.null, .null, .ref q1, .ref q2, .ref q3, .ref q4, .ref q5, .ref q6, .null, .int 0, .int 0])), (q1, .inl (kc 0, 8, .inl (fun _ => 0))), (q2, .inl (kc 0, 8, .inl (fun _ => 0))), (q3, .inl (kc 0, 8, .inl (fun _ => 0))), (q4, .inl (kc 0, 8, .inl (fun _ => 0))), (q5, .inl (kc 0, 8, .inl (fun _ => 0))), (q6, .inl (kc 0, 8, .inl (fun _ => 0))), (q7, .inl (kc 0, 8, .inl (fun _ => 0)))]) H := hP
  have hD : va_D A ([(h0, .inr (4, [.null, .null, .ref q1, .ref q2, .ref q3, .ref q4, .ref q5, .ref q6, .null, .int 0, .int 0])), (q1, .inl (kc 0, 8, .inl (fun _ => 0))), (q2, .inl (kc 0, 8, .inl (fun _ => 0))), (q3, .inl (kc 0, 8, .inl (fun _ => 0))), (q4, .inl (kc 0, 8, .inl (fun _ => 0))), (q5, .inl (kc 0, 8, .inl (fun _ => 0))), (q6, .inl (kc 0, 8, .inl (fun _ => 0))), (q7, .inl (kc 0, 8, .inl (fun _ => 0)))]) := hD
  refine rz_putF F hin cg_Co 0 rfl 8 (by decide) fl_Co_30 rfl rfl rfl rfl (Nat.le_of_ble_eq_true rfl) hP hD hS d_Coi_57 (fun H locs hP hD hS => ?_)
  have hP : va_P D ra_cl ([(h0, .inr (4, [.null, .null, .ref q1, .ref q2, .ref q3, .ref q4, .ref q5, .ref q6, .ref q7, .int 0, .int 0])), (q1, .inl (kc 0, 8, .inl (fun _ => 0))), (q2, .inl (kc 0, 8, .inl (fun _ => 0))), (q3, .inl (kc 0, 8, .inl (fun _ => 0))), (q4, .inl (kc 0, 8, .inl (fun _ => 0))), (q5, .inl (kc 0, 8, .inl (fun _ => 0))), (q6, .inl (kc 0, 8, .inl (fun _ => 0))), (q7, .inl (kc 0, 8, .inl (fun _ => 0)))]) H := hP
  have hD : va_D A ([(h0, .inr (4, [.null, .null, .ref q1, .ref q2, .ref q3, .ref q4, .ref q5, .ref q6, .ref q7, .int 0, .int 0])), (q1, .inl (kc 0, 8, .inl (fun _ => 0))), (q2, .inl (kc 0, 8, .inl (fun _ => 0))), (q3, .inl (kc 0, 8, .inl (fun _ => 0))), (q4, .inl (kc 0, 8, .inl (fun _ => 0))), (q5, .inl (kc 0, 8, .inl (fun _ => 0))), (q6, .inl (kc 0, 8, .inl (fun _ => 0))), (q7, .inl (kc 0, 8, .inl (fun _ => 0)))]) := hD
  refine lv_aload_n F.1 F.2.1 d_Coi_60 rfl (lv_at hl 0 rfl) ?_
  refine lv_aload_n F.1 F.2.1 d_Coi_61 rfl (lv_at hl 1 rfl) ?_
  refine rz_putF F hin cg_Co 0 rfl 0 (by decide) fl_Co_33 rfl rfl rfl rfl (Nat.le_of_ble_eq_true rfl) hP hD hS d_Coi_62 (fun H locs hP hD hS => ?_)
  have hP : va_P D ra_cl ([(h0, .inr (4, [.ref a1, .null, .ref q1, .ref q2, .ref q3, .ref q4, .ref q5, .ref q6, .ref q7, .int 0, .int 0])), (q1, .inl (kc 0, 8, .inl (fun _ => 0))), (q2, .inl (kc 0, 8, .inl (fun _ => 0))), (q3, .inl (kc 0, 8, .inl (fun _ => 0))), (q4, .inl (kc 0, 8, .inl (fun _ => 0))), (q5, .inl (kc 0, 8, .inl (fun _ => 0))), (q6, .inl (kc 0, 8, .inl (fun _ => 0))), (q7, .inl (kc 0, 8, .inl (fun _ => 0)))]) H := hP
  have hD : va_D A ([(h0, .inr (4, [.ref a1, .null, .ref q1, .ref q2, .ref q3, .ref q4, .ref q5, .ref q6, .ref q7, .int 0, .int 0])), (q1, .inl (kc 0, 8, .inl (fun _ => 0))), (q2, .inl (kc 0, 8, .inl (fun _ => 0))), (q3, .inl (kc 0, 8, .inl (fun _ => 0))), (q4, .inl (kc 0, 8, .inl (fun _ => 0))), (q5, .inl (kc 0, 8, .inl (fun _ => 0))), (q6, .inl (kc 0, 8, .inl (fun _ => 0))), (q7, .inl (kc 0, 8, .inl (fun _ => 0)))]) := hD
  refine lv_aload_n F.1 F.2.1 d_Coi_65 rfl (lv_at hl 0 rfl) ?_
  refine lv_aload_n F.1 F.2.1 d_Coi_66 rfl (lv_at hl 2 rfl) ?_
  refine rz_putF F hin cg_Co 0 rfl 1 (by decide) fl_Co_37 rfl rfl rfl rfl (Nat.le_of_ble_eq_true rfl) hP hD hS d_Coi_67 (fun H locs hP hD hS => ?_)
  have hP : va_P D ra_cl ([(h0, .inr (4, [.ref a1, .ref a2, .ref q1, .ref q2, .ref q3, .ref q4, .ref q5, .ref q6, .ref q7, .int 0, .int 0])), (q1, .inl (kc 0, 8, .inl (fun _ => 0))), (q2, .inl (kc 0, 8, .inl (fun _ => 0))), (q3, .inl (kc 0, 8, .inl (fun _ => 0))), (q4, .inl (kc 0, 8, .inl (fun _ => 0))), (q5, .inl (kc 0, 8, .inl (fun _ => 0))), (q6, .inl (kc 0, 8, .inl (fun _ => 0))), (q7, .inl (kc 0, 8, .inl (fun _ => 0)))]) H := hP
  have hD : va_D A ([(h0, .inr (4, [.ref a1, .ref a2, .ref q1, .ref q2, .ref q3, .ref q4, .ref q5, .ref q6, .ref q7, .int 0, .int 0])), (q1, .inl (kc 0, 8, .inl (fun _ => 0))), (q2, .inl (kc 0, 8, .inl (fun _ => 0))), (q3, .inl (kc 0, 8, .inl (fun _ => 0))), (q4, .inl (kc 0, 8, .inl (fun _ => 0))), (q5, .inl (kc 0, 8, .inl (fun _ => 0))), (q6, .inl (kc 0, 8, .inl (fun _ => 0))), (q7, .inl (kc 0, 8, .inl (fun _ => 0)))]) := hD
  have hP9 := hP.sub (ws' := w_Coi kc h0 a1 a2 (fun j => [q1, q2, q3, q4, q5, q6, q7].getD j 0)) [0, 1, 2, 3, 4, 5, 6, 7] rfl
  have hD9 := hD.sub (ws' := w_Coi kc h0 a1 a2 (fun j => [q1, q2, q3, q4, q5, q6, q7].getD j 0)) [0, 1, 2, 3, 4, 5, 6, 7] (by decide) rfl
  exact rz_ret (w := w_Coi kc h0 a1 a2) F hr hlk (fun j => [q1, q2, q3, q4, q5, q6, q7].getD j 0) hP9 hD9 hS (Nat.le_of_ble_eq_true rfl) (Nat.le_of_ble_eq_true rfl) d_Coi_70
/-! RoofAcross$Story() -/
def rm_Soi : Room := { frames := 2, cells := 13, slots := 487, locals := 86 }
abbrev mi_Soi : ra_MI := (⟨cn_So, "<init>", "(LRoofAcross$Village;LRoofAcross$Weather;)V"⟩, prog_8_method_1_code, 3, none, rm_Soi, 3)
set_option maxRecDepth 100000 in
theorem jc_Soi : Cond.code (mi_Soi).1 (mi_Soi).2.1 (mi_Soi).2.2.1 (mi_Soi).2.2.2.1 ∈ ra_WS := ra_in 219 (by decide +kernel) (by decide +kernel)
set_option maxRecDepth 100000 in
theorem ji_Soi : Cond.initialized (mi_Soi).1.cls ∈ ra_WS := ra_in 66 (by decide +kernel) (by decide +kernel)
set_option maxRecDepth 100000 in
theorem jm_Soi : Cond.instanceMethod (mi_Soi).1 ∈ ra_WS := ra_in 218 (by decide +kernel) (by decide +kernel)
set_option maxRecDepth 100000 in
theorem jn_Soi : Cond.instantiable cn_So 5 ∈ ra_WS := ra_in 216 (by decide +kernel) (by decide +kernel)
set_option maxRecDepth 100000 in
theorem ml_Soi_3 : Cond.methodLink cn_So 3 Lib.objectInit ∈ ra_WS := ra_in 220 (by decide +kernel) (by decide +kernel)
set_option maxRecDepth 100000 in
theorem cl_Soi_9 : Cond.classLink cn_So 9 "[[I" ∈ ra_WS := ra_in 221 (by decide +kernel) (by decide +kernel)
set_option maxRecDepth 100000 in
theorem cl_Soi_28 : Cond.classLink cn_So 28 cn_Co ∈ ra_WS := ra_in 223 (by decide +kernel) (by decide +kernel)
set_option maxRecDepth 100000 in
theorem ml_Soi_30 : Cond.methodLink cn_So 30 (mi_Coi).1 ∈ ra_WS := ra_in 225 (by decide +kernel) (by decide +kernel)
theorem d_Soi_0 : decode prog_8_method_1_code 0 = .ok (.aload_n 0, 1) := by decide +kernel
theorem d_Soi_1 : decode prog_8_method_1_code 1 = .ok (.invokespecial 3, 3) := by decide +kernel
theorem d_Soi_4 : decode prog_8_method_1_code 4 = .ok (.aload_n 0, 1) := by decide +kernel
theorem d_Soi_5 : decode prog_8_method_1_code 5 = .ok (.iconst 4, 1) := by decide +kernel
theorem d_Soi_6 : decode prog_8_method_1_code 6 = .ok (.bipush 104, 2) := by decide +kernel
theorem d_Soi_8 : decode prog_8_method_1_code 8 = .ok (.multianewarray 9 2, 4) := by decide +kernel
theorem d_Soi_12 : decode prog_8_method_1_code 12 = .ok (.putfield 11, 3) := by decide +kernel
theorem d_Soi_15 : decode prog_8_method_1_code 15 = .ok (.aload_n 0, 1) := by decide +kernel
theorem d_Soi_16 : decode prog_8_method_1_code 16 = .ok (.iconst (-1), 1) := by decide +kernel
theorem d_Soi_17 : decode prog_8_method_1_code 17 = .ok (.putfield 16, 3) := by decide +kernel
theorem d_Soi_20 : decode prog_8_method_1_code 20 = .ok (.aload_n 0, 1) := by decide +kernel
theorem d_Soi_21 : decode prog_8_method_1_code 21 = .ok (.aload_n 1, 1) := by decide +kernel
theorem d_Soi_22 : decode prog_8_method_1_code 22 = .ok (.putfield 20, 3) := by decide +kernel
theorem d_Soi_25 : decode prog_8_method_1_code 25 = .ok (.aload_n 0, 1) := by decide +kernel
theorem d_Soi_26 : decode prog_8_method_1_code 26 = .ok (.aload_n 2, 1) := by decide +kernel
theorem d_Soi_27 : decode prog_8_method_1_code 27 = .ok (.putfield 24, 3) := by decide +kernel
theorem d_Soi_30 : decode prog_8_method_1_code 30 = .ok (.aload_n 0, 1) := by decide +kernel
theorem d_Soi_31 : decode prog_8_method_1_code 31 = .ok (.new 28, 3) := by decide +kernel
theorem d_Soi_34 : decode prog_8_method_1_code 34 = .ok (.dup, 1) := by decide +kernel
theorem d_Soi_35 : decode prog_8_method_1_code 35 = .ok (.aload_n 1, 1) := by decide +kernel
theorem d_Soi_36 : decode prog_8_method_1_code 36 = .ok (.aload_n 2, 1) := by decide +kernel
theorem d_Soi_37 : decode prog_8_method_1_code 37 = .ok (.invokespecial 30, 3) := by decide +kernel
theorem d_Soi_40 : decode prog_8_method_1_code 40 = .ok (.putfield 33, 3) := by decide +kernel
theorem d_Soi_43 : decode prog_8_method_1_code 43 = .ok (.return_, 1) := by decide +kernel
def w_Soi (kc : Nat → ClassId) (h0 : Nat) (a1 : Nat) (a2 : Nat) (q : Nat → Nat) : va_W := [(h0, .inr (5, [.ref a1, .ref a2, .ref (q 0), .ref (q 8), .int (-1)])), ((q 0), .inr (4, [.ref a1, .ref a2, .ref (q 1), .ref (q 2), .ref (q 3), .ref (q 4), .ref (q 5), .ref (q 6), .ref (q 7), .int 0, .int 0])), ((q 1), .inl (kc 0, 8, .inl (fun _ => 0))), ((q 2), .inl (kc 0, 8, .inl (fun _ => 0))), ((q 3), .inl (kc 0, 8, .inl (fun _ => 0))), ((q 4), .inl (kc 0, 8, .inl (fun _ => 0))), ((q 5), .inl (kc 0, 8, .inl (fun _ => 0))), ((q 6), .inl (kc 0, 8, .inl (fun _ => 0))), ((q 7), .inl (kc 0, 8, .inl (fun _ => 0))), ((q 8), .inl (kc 2, 4, .inr (.inr (.inr (.inr (fun i => if i < 4 then some (q (9 + i)) else none)))))), ((q 9), .inl (kc 0, 104, .inl (fun _ => 0))), ((q 10), .inl (kc 0, 104, .inl (fun _ => 0))), ((q 11), .inl (kc 0, 104, .inl (fun _ => 0))), ((q 12), .inl (kc 0, 104, .inl (fun _ => 0)))]
set_option maxHeartbeats 4000000 in
set_option maxRecDepth 100000 in
theorem c_Soi {l : Launch} {D : va_G} (kc : Nat → ClassId) (h0 : Nat) (a1 : Nat) (a2 : Nat) : rz_M l D kc mi_Soi h0 5 [.null, .null, .null, .null, .int 0] [.ref a1, .ref a2] (w_Soi kc h0 a1 a2) := by
  refine rz_enter cn_So rfl rfl rfl (by decide +kernel) (Nat.le_of_ble_eq_true rfl) ?_
  intro p e s m below meth c ls A F hin hr hlk hP hD hl
  have hl : lv_has ls 3 [(0, .ref h0), (1, .ref a1), (2, .ref a2)] := hl
  have hS : va_S A s.heap s.heap [] := va_S.rf
  refine lv_aload_n F.1 F.2.1 d_Soi_0 rfl (lv_at hl 0 rfl) ?_
  refine rz_obj F ml_Soi_3 hl (by decide) (Nat.le_of_ble_eq_true rfl) d_Soi_1 ?_
  refine lv_aload_n F.1 F.2.1 d_Soi_4 rfl (lv_at hl 0 rfl) ?_
  refine lv_iconst (v := 4) F.1 F.2.1 d_Soi_5 (by decide) ?_
  refine lv_bipush (v := 104) F.1 F.2.1 d_Soi_6 (by decide) ?_
  refine rz_mna F (N := 4) (K := 104) rfl rfl (by decide) (by decide) cl_Soi_9 (Nat.le_of_ble_eq_true rfl) (Nat.le_of_ble_eq_true rfl) hP hD hS d_Soi_8 (fun q1 r2 H hP hD hS => ?_)
  refine W.widen (k := 5) (n := 420) (Nat.le_of_ble_eq_true rfl) (Nat.le_of_ble_eq_true rfl) ?_
  have hP : va_P D ra_cl ([(h0, .inr (5, [.null, .null, .null, .null, .int 0])), (q1, .inl (kc 2, 4, .inr (.inr (.inr (.inr (fun i => if i < 4 then some (r2 i) else none)))))), ((r2 0), .inl (kc 0, 104, .inl (fun _ => 0))), ((r2 1), .inl (kc 0, 104, .inl (fun _ => 0))), ((r2 2), .inl (kc 0, 104, .inl (fun _ => 0))), ((r2 3), .inl (kc 0, 104, .inl (fun _ => 0)))]) H := hP
  have hD : va_D A ([(h0, .inr (5, [.null, .null, .null, .null, .int 0])), (q1, .inl (kc 2, 4, .inr (.inr (.inr (.inr (fun i => if i < 4 then some (r2 i) else none)))))), ((r2 0), .inl (kc 0, 104, .inl (fun _ => 0))), ((r2 1), .inl (kc 0, 104, .inl (fun _ => 0))), ((r2 2), .inl (kc 0, 104, .inl (fun _ => 0))), ((r2 3), .inl (kc 0, 104, .inl (fun _ => 0)))]) := hD
  refine rz_putF F hin cg_So 0 rfl 3 (by decide) fl_So_11 rfl rfl rfl rfl (Nat.le_of_ble_eq_true rfl) hP hD hS d_Soi_12 (fun H locs hP hD hS => ?_)
  have hP : va_P D ra_cl ([(h0, .inr (5, [.null, .null, .null, .ref q1, .int 0])), (q1, .inl (kc 2, 4, .inr (.inr (.inr (.inr (fun i => if i < 4 then some (r2 i) else none)))))), ((r2 0), .inl (kc 0, 104, .inl (fun _ => 0))), ((r2 1), .inl (kc 0, 104, .inl (fun _ => 0))), ((r2 2), .inl (kc 0, 104, .inl (fun _ => 0))), ((r2 3), .inl (kc 0, 104, .inl (fun _ => 0)))]) H := hP
  have hD : va_D A ([(h0, .inr (5, [.null, .null, .null, .ref q1, .int 0])), (q1, .inl (kc 2, 4, .inr (.inr (.inr (.inr (fun i => if i < 4 then some (r2 i) else none)))))), ((r2 0), .inl (kc 0, 104, .inl (fun _ => 0))), ((r2 1), .inl (kc 0, 104, .inl (fun _ => 0))), ((r2 2), .inl (kc 0, 104, .inl (fun _ => 0))), ((r2 3), .inl (kc 0, 104, .inl (fun _ => 0)))]) := hD
  refine lv_aload_n F.1 F.2.1 d_Soi_15 rfl (lv_at hl 0 rfl) ?_
  refine lv_iconst (v := (-1)) F.1 F.2.1 d_Soi_16 (by decide) ?_
  refine rz_put F cg_So 0 rfl 4 (by decide) fl_So_16 rfl rfl rfl (Nat.le_of_ble_eq_true rfl) hP hD hS d_Soi_17 (fun H locs hP hD hS => ?_)
  have hP : va_P D ra_cl ([(h0, .inr (5, [.null, .null, .null, .ref q1, .int (-1)])), (q1, .inl (kc 2, 4, .inr (.inr (.inr (.inr (fun i => if i < 4 then some (r2 i) else none)))))), ((r2 0), .inl (kc 0, 104, .inl (fun _ => 0))), ((r2 1), .inl (kc 0, 104, .inl (fun _ => 0))), ((r2 2), .inl (kc 0, 104, .inl (fun _ => 0))), ((r2 3), .inl (kc 0, 104, .inl (fun _ => 0)))]) H := hP
  have hD : va_D A ([(h0, .inr (5, [.null, .null, .null, .ref q1, .int (-1)])), (q1, .inl (kc 2, 4, .inr (.inr (.inr (.inr (fun i => if i < 4 then some (r2 i) else none)))))), ((r2 0), .inl (kc 0, 104, .inl (fun _ => 0))), ((r2 1), .inl (kc 0, 104, .inl (fun _ => 0))), ((r2 2), .inl (kc 0, 104, .inl (fun _ => 0))), ((r2 3), .inl (kc 0, 104, .inl (fun _ => 0)))]) := hD
  refine lv_aload_n F.1 F.2.1 d_Soi_20 rfl (lv_at hl 0 rfl) ?_
  refine lv_aload_n F.1 F.2.1 d_Soi_21 rfl (lv_at hl 1 rfl) ?_
  refine rz_putF F hin cg_So 0 rfl 0 (by decide) fl_So_20 rfl rfl rfl rfl (Nat.le_of_ble_eq_true rfl) hP hD hS d_Soi_22 (fun H locs hP hD hS => ?_)
  have hP : va_P D ra_cl ([(h0, .inr (5, [.ref a1, .null, .null, .ref q1, .int (-1)])), (q1, .inl (kc 2, 4, .inr (.inr (.inr (.inr (fun i => if i < 4 then some (r2 i) else none)))))), ((r2 0), .inl (kc 0, 104, .inl (fun _ => 0))), ((r2 1), .inl (kc 0, 104, .inl (fun _ => 0))), ((r2 2), .inl (kc 0, 104, .inl (fun _ => 0))), ((r2 3), .inl (kc 0, 104, .inl (fun _ => 0)))]) H := hP
  have hD : va_D A ([(h0, .inr (5, [.ref a1, .null, .null, .ref q1, .int (-1)])), (q1, .inl (kc 2, 4, .inr (.inr (.inr (.inr (fun i => if i < 4 then some (r2 i) else none)))))), ((r2 0), .inl (kc 0, 104, .inl (fun _ => 0))), ((r2 1), .inl (kc 0, 104, .inl (fun _ => 0))), ((r2 2), .inl (kc 0, 104, .inl (fun _ => 0))), ((r2 3), .inl (kc 0, 104, .inl (fun _ => 0)))]) := hD
  refine lv_aload_n F.1 F.2.1 d_Soi_25 rfl (lv_at hl 0 rfl) ?_
  refine lv_aload_n F.1 F.2.1 d_Soi_26 rfl (lv_at hl 2 rfl) ?_
  refine rz_putF F hin cg_So 0 rfl 1 (by decide) fl_So_24 rfl rfl rfl rfl (Nat.le_of_ble_eq_true rfl) hP hD hS d_Soi_27 (fun H locs hP hD hS => ?_)
  have hP : va_P D ra_cl ([(h0, .inr (5, [.ref a1, .ref a2, .null, .ref q1, .int (-1)])), (q1, .inl (kc 2, 4, .inr (.inr (.inr (.inr (fun i => if i < 4 then some (r2 i) else none)))))), ((r2 0), .inl (kc 0, 104, .inl (fun _ => 0))), ((r2 1), .inl (kc 0, 104, .inl (fun _ => 0))), ((r2 2), .inl (kc 0, 104, .inl (fun _ => 0))), ((r2 3), .inl (kc 0, 104, .inl (fun _ => 0)))]) H := hP
  have hD : va_D A ([(h0, .inr (5, [.ref a1, .ref a2, .null, .ref q1, .int (-1)])), (q1, .inl (kc 2, 4, .inr (.inr (.inr (.inr (fun i => if i < 4 then some (r2 i) else none)))))), ((r2 0), .inl (kc 0, 104, .inl (fun _ => 0))), ((r2 1), .inl (kc 0, 104, .inl (fun _ => 0))), ((r2 2), .inl (kc 0, 104, .inl (fun _ => 0))), ((r2 3), .inl (kc 0, 104, .inl (fun _ => 0)))]) := hD
  refine lv_aload_n F.1 F.2.1 d_Soi_30 rfl (lv_at hl 0 rfl) ?_
  refine rz_new F cg_Co (fs := [.null, .null, .null, .null, .null, .null, .null, .null, .null, .int 0, .int 0]) (fun j hj => by have : j < 11 := hj; revert j; decide) cl_Soi_28 jn_Coi ji_Coi (Nat.le_of_ble_eq_true rfl) (Nat.le_of_ble_eq_true rfl) hP hD hS d_Soi_31 (fun q3 H hP hD hS => ?_)
  refine W.widen (k := 6) (n := 431) (Nat.le_of_ble_eq_true rfl) (Nat.le_of_ble_eq_true rfl) ?_
  have hP : va_P D ra_cl ([(h0, .inr (5, [.ref a1, .ref a2, .null, .ref q1, .int (-1)])), (q1, .inl (kc 2, 4, .inr (.inr (.inr (.inr (fun i => if i < 4 then some (r2 i) else none)))))), ((r2 0), .inl (kc 0, 104, .inl (fun _ => 0))), ((r2 1), .inl (kc 0, 104, .inl (fun _ => 0))), ((r2 2), .inl (kc 0, 104, .inl (fun _ => 0))), ((r2 3), .inl (kc 0, 104, .inl (fun _ => 0))), (q3, .inr (4, [.null, .null, .null, .null, .null, .null, .null, .null, .null, .int 0, .int 0]))]) H := hP
  have hD : va_D A ([(h0, .inr (5, [.ref a1, .ref a2, .null, .ref q1, .int (-1)])), (q1, .inl (kc 2, 4, .inr (.inr (.inr (.inr (fun i => if i < 4 then some (r2 i) else none)))))), ((r2 0), .inl (kc 0, 104, .inl (fun _ => 0))), ((r2 1), .inl (kc 0, 104, .inl (fun _ => 0))), ((r2 2), .inl (kc 0, 104, .inl (fun _ => 0))), ((r2 3), .inl (kc 0, 104, .inl (fun _ => 0))), (q3, .inr (4, [.null, .null, .null, .null, .null, .null, .null, .null, .null, .int 0, .int 0]))]) := hD
  refine lv_dup F.1 F.2.1 d_Soi_34 rfl ?_
  refine lv_aload_n F.1 F.2.1 d_Soi_35 rfl (lv_at hl 1 rfl) ?_
  refine lv_aload_n F.1 F.2.1 d_Soi_36 rfl (lv_at hl 2 rfl) ?_
  refine rz_callI (wr := [(h0, .inr (5, [.ref a1, .ref a2, .null, .ref q1, .int (-1)])), (q1, .inl (kc 2, 4, .inr (.inr (.inr (.inr (fun i => if i < 4 then some (r2 i) else none)))))), ((r2 0), .inl (kc 0, 104, .inl (fun _ => 0))), ((r2 1), .inl (kc 0, 104, .inl (fun _ => 0))), ((r2 2), .inl (kc 0, 104, .inl (fun _ => 0))), ((r2 3), .inl (kc 0, 104, .inl (fun _ => 0)))]) (As := [.ref a1, .ref a2]) (rest := [.ref q3, .ref h0]) F (c_Coi kc q3 a1 a2) rfl jc_Coi ji_Coi ml_Soi_30 jm_Coi rfl ⟨by decide +kernel, by decide +kernel, by show _ = some 2; decide +kernel⟩ ⟨Nat.le_of_ble_eq_true rfl, Nat.le_of_ble_eq_true rfl⟩ ⟨Nat.le_of_ble_eq_true rfl, Nat.le_of_ble_eq_true rfl⟩ hP hD hS hl rfl (Nat.le_of_ble_eq_true rfl) d_Soi_37 (fun u4 H locs hP hD hS => ?_)
  refine W.widen (k := 13) (n := 487) (Nat.le_of_ble_eq_true rfl) (Nat.le_of_ble_eq_true rfl) ?_
  have hP : va_P D ra_cl ([(h0, .inr (5, [.ref a1, .ref a2, .null, .ref q1, .int (-1)])), (q1, .inl (kc 2, 4, .inr (.inr (.inr (.inr (fun i => if i < 4 then some (r2 i) else none)))))), ((r2 0), .inl (kc 0, 104, .inl (fun _ => 0))), ((r2 1), .inl (kc 0, 104, .inl (fun _ => 0))), ((r2 2), .inl (kc 0, 104, .inl (fun _ => 0))), ((r2 3), .inl (kc 0, 104, .inl (fun _ => 0))), (q3, .inr (4, [.ref a1, .ref a2, .ref (u4 0), .ref (u4 1), .ref (u4 2), .ref (u4 3), .ref (u4 4), .ref (u4 5), .ref (u4 6), .int 0, .int 0])), ((u4 0), .inl (kc 0, 8, .inl (fun _ => 0))), ((u4 1), .inl (kc 0, 8, .inl (fun _ => 0))), ((u4 2), .inl (kc 0, 8, .inl (fun _ => 0))), ((u4 3), .inl (kc 0, 8, .inl (fun _ => 0))), ((u4 4), .inl (kc 0, 8, .inl (fun _ => 0))), ((u4 5), .inl (kc 0, 8, .inl (fun _ => 0))), ((u4 6), .inl (kc 0, 8, .inl (fun _ => 0)))]) H := hP
  have hD : va_D A ([(h0, .inr (5, [.ref a1, .ref a2, .null, .ref q1, .int (-1)])), (q1, .inl (kc 2, 4, .inr (.inr (.inr (.inr (fun i => if i < 4 then some (r2 i) else none)))))), ((r2 0), .inl (kc 0, 104, .inl (fun _ => 0))), ((r2 1), .inl (kc 0, 104, .inl (fun _ => 0))), ((r2 2), .inl (kc 0, 104, .inl (fun _ => 0))), ((r2 3), .inl (kc 0, 104, .inl (fun _ => 0))), (q3, .inr (4, [.ref a1, .ref a2, .ref (u4 0), .ref (u4 1), .ref (u4 2), .ref (u4 3), .ref (u4 4), .ref (u4 5), .ref (u4 6), .int 0, .int 0])), ((u4 0), .inl (kc 0, 8, .inl (fun _ => 0))), ((u4 1), .inl (kc 0, 8, .inl (fun _ => 0))), ((u4 2), .inl (kc 0, 8, .inl (fun _ => 0))), ((u4 3), .inl (kc 0, 8, .inl (fun _ => 0))), ((u4 4), .inl (kc 0, 8, .inl (fun _ => 0))), ((u4 5), .inl (kc 0, 8, .inl (fun _ => 0))), ((u4 6), .inl (kc 0, 8, .inl (fun _ => 0)))]) := hD
  refine rz_putF F hin cg_So 0 rfl 2 (by decide) fl_So_33 rfl rfl rfl rfl (Nat.le_of_ble_eq_true rfl) hP hD hS d_Soi_40 (fun H locs hP hD hS => ?_)
  have hP : va_P D ra_cl ([(h0, .inr (5, [.ref a1, .ref a2, .ref q3, .ref q1, .int (-1)])), (q1, .inl (kc 2, 4, .inr (.inr (.inr (.inr (fun i => if i < 4 then some (r2 i) else none)))))), ((r2 0), .inl (kc 0, 104, .inl (fun _ => 0))), ((r2 1), .inl (kc 0, 104, .inl (fun _ => 0))), ((r2 2), .inl (kc 0, 104, .inl (fun _ => 0))), ((r2 3), .inl (kc 0, 104, .inl (fun _ => 0))), (q3, .inr (4, [.ref a1, .ref a2, .ref (u4 0), .ref (u4 1), .ref (u4 2), .ref (u4 3), .ref (u4 4), .ref (u4 5), .ref (u4 6), .int 0, .int 0])), ((u4 0), .inl (kc 0, 8, .inl (fun _ => 0))), ((u4 1), .inl (kc 0, 8, .inl (fun _ => 0))), ((u4 2), .inl (kc 0, 8, .inl (fun _ => 0))), ((u4 3), .inl (kc 0, 8, .inl (fun _ => 0))), ((u4 4), .inl (kc 0, 8, .inl (fun _ => 0))), ((u4 5), .inl (kc 0, 8, .inl (fun _ => 0))), ((u4 6), .inl (kc 0, 8, .inl (fun _ => 0)))]) H := hP
  have hD : va_D A ([(h0, .inr (5, [.ref a1, .ref a2, .ref q3, .ref q1, .int (-1)])), (q1, .inl (kc 2, 4, .inr (.inr (.inr (.inr (fun i => if i < 4 then some (r2 i) else none)))))), ((r2 0), .inl (kc 0, 104, .inl (fun _ => 0))), ((r2 1), .inl (kc 0, 104, .inl (fun _ => 0))), ((r2 2), .inl (kc 0, 104, .inl (fun _ => 0))), ((r2 3), .inl (kc 0, 104, .inl (fun _ => 0))), (q3, .inr (4, [.ref a1, .ref a2, .ref (u4 0), .ref (u4 1), .ref (u4 2), .ref (u4 3), .ref (u4 4), .ref (u4 5), .ref (u4 6), .int 0, .int 0])), ((u4 0), .inl (kc 0, 8, .inl (fun _ => 0))), ((u4 1), .inl (kc 0, 8, .inl (fun _ => 0))), ((u4 2), .inl (kc 0, 8, .inl (fun _ => 0))), ((u4 3), .inl (kc 0, 8, .inl (fun _ => 0))), ((u4 4), .inl (kc 0, 8, .inl (fun _ => 0))), ((u4 5), .inl (kc 0, 8, .inl (fun _ => 0))), ((u4 6), .inl (kc 0, 8, .inl (fun _ => 0)))]) := hD
  have hP8 := hP.sub (ws' := [(h0, .inr (5, [.ref a1, .ref a2, .ref q3, .ref q1, .int (-1)])), (q3, .inr (4, [.ref a1, .ref a2, .ref (u4 0), .ref (u4 1), .ref (u4 2), .ref (u4 3), .ref (u4 4), .ref (u4 5), .ref (u4 6), .int 0, .int 0])), ((u4 0), .inl (kc 0, 8, .inl (fun _ => 0))), ((u4 1), .inl (kc 0, 8, .inl (fun _ => 0))), ((u4 2), .inl (kc 0, 8, .inl (fun _ => 0))), ((u4 3), .inl (kc 0, 8, .inl (fun _ => 0))), ((u4 4), .inl (kc 0, 8, .inl (fun _ => 0))), ((u4 5), .inl (kc 0, 8, .inl (fun _ => 0))), ((u4 6), .inl (kc 0, 8, .inl (fun _ => 0))), (q1, .inl (kc 2, 4, .inr (.inr (.inr (.inr (fun i => if i < 4 then some (r2 i) else none)))))), ((r2 0), .inl (kc 0, 104, .inl (fun _ => 0))), ((r2 1), .inl (kc 0, 104, .inl (fun _ => 0))), ((r2 2), .inl (kc 0, 104, .inl (fun _ => 0))), ((r2 3), .inl (kc 0, 104, .inl (fun _ => 0)))]) [0, 6, 7, 8, 9, 10, 11, 12, 13, 1, 2, 3, 4, 5] rfl
  have hD8 := hD.sub (ws' := [(h0, .inr (5, [.ref a1, .ref a2, .ref q3, .ref q1, .int (-1)])), (q3, .inr (4, [.ref a1, .ref a2, .ref (u4 0), .ref (u4 1), .ref (u4 2), .ref (u4 3), .ref (u4 4), .ref (u4 5), .ref (u4 6), .int 0, .int 0])), ((u4 0), .inl (kc 0, 8, .inl (fun _ => 0))), ((u4 1), .inl (kc 0, 8, .inl (fun _ => 0))), ((u4 2), .inl (kc 0, 8, .inl (fun _ => 0))), ((u4 3), .inl (kc 0, 8, .inl (fun _ => 0))), ((u4 4), .inl (kc 0, 8, .inl (fun _ => 0))), ((u4 5), .inl (kc 0, 8, .inl (fun _ => 0))), ((u4 6), .inl (kc 0, 8, .inl (fun _ => 0))), (q1, .inl (kc 2, 4, .inr (.inr (.inr (.inr (fun i => if i < 4 then some (r2 i) else none)))))), ((r2 0), .inl (kc 0, 104, .inl (fun _ => 0))), ((r2 1), .inl (kc 0, 104, .inl (fun _ => 0))), ((r2 2), .inl (kc 0, 104, .inl (fun _ => 0))), ((r2 3), .inl (kc 0, 104, .inl (fun _ => 0)))]) [0, 6, 7, 8, 9, 10, 11, 12, 13, 1, 2, 3, 4, 5] (by decide) rfl
  have e9 : (fun i => if i < 4 then some (r2 i) else none) = (fun i => if i < 4 then some ([q3, u4 0, u4 1, u4 2, u4 3, u4 4, u4 5, u4 6, q1, r2 0, r2 1, r2 2, r2 3].getD (9 + i) 0) else none) := row_e (fun i hi => by rcases (show i = 0 ∨ i = 1 ∨ i = 2 ∨ i = 3 by omega) with rfl | rfl | rfl | rfl <;> rfl)
  rw [e9] at hP8 hD8
  have hP9 : va_P D ra_cl (w_Soi kc h0 a1 a2 (fun j => [q3, u4 0, u4 1, u4 2, u4 3, u4 4, u4 5, u4 6, q1, r2 0, r2 1, r2 2, r2 3].getD j 0)) H := hP8
  have hD9 : va_D A (w_Soi kc h0 a1 a2 (fun j => [q3, u4 0, u4 1, u4 2, u4 3, u4 4, u4 5, u4 6, q1, r2 0, r2 1, r2 2, r2 3].getD j 0)) := hD8
  exact rz_ret (w := w_Soi kc h0 a1 a2) F hr hlk (fun j => [q3, u4 0, u4 1, u4 2, u4 3, u4 4, u4 5, u4 6, q1, r2 0, r2 1, r2 2, r2 3].getD j 0) hP9 hD9 hS (Nat.le_of_ble_eq_true rfl) (Nat.le_of_ble_eq_true rfl) d_Soi_43
/-! RoofAcross$Moods() -/
def rm_Moi : Room := { frames := 2, cells := 12, slots := 123, locals := 86 }
abbrev mi_Moi : ra_MI := (⟨cn_Mo, "<init>", "(LRoofAcross$Village;LRoofAcross$Weather;)V"⟩, prog_6_method_1_code, 3, none, rm_Moi, 3)
set_option maxRecDepth 100000 in
theorem jc_Moi : Cond.code (mi_Moi).1 (mi_Moi).2.1 (mi_Moi).2.2.1 (mi_Moi).2.2.2.1 ∈ ra_WS := ra_in 291 (by decide +kernel) (by decide +kernel)
set_option maxRecDepth 100000 in
theorem ji_Moi : Cond.initialized (mi_Moi).1.cls ∈ ra_WS := ra_in 68 (by decide +kernel) (by decide +kernel)
set_option maxRecDepth 100000 in
theorem jm_Moi : Cond.instanceMethod (mi_Moi).1 ∈ ra_WS := ra_in 290 (by decide +kernel) (by decide +kernel)
set_option maxRecDepth 100000 in
theorem jn_Moi : Cond.instantiable cn_Mo 8 ∈ ra_WS := ra_in 288 (by decide +kernel) (by decide +kernel)
set_option maxRecDepth 100000 in
theorem ml_Moi_3 : Cond.methodLink cn_Mo 3 Lib.objectInit ∈ ra_WS := ra_in 292 (by decide +kernel) (by decide +kernel)
set_option maxRecDepth 100000 in
theorem cl_Moi_36 : Cond.classLink cn_Mo 36 cn_Co ∈ ra_WS := ra_in 293 (by decide +kernel) (by decide +kernel)
set_option maxRecDepth 100000 in
theorem ml_Moi_38 : Cond.methodLink cn_Mo 38 (mi_Coi).1 ∈ ra_WS := ra_in 294 (by decide +kernel) (by decide +kernel)
theorem d_Moi_0 : decode prog_6_method_1_code 0 = .ok (.aload_n 0, 1) := by decide +kernel
theorem d_Moi_1 : decode prog_6_method_1_code 1 = .ok (.invokespecial 3, 3) := by decide +kernel
theorem d_Moi_4 : decode prog_6_method_1_code 4 = .ok (.aload_n 0, 1) := by decide +kernel
theorem d_Moi_5 : decode prog_6_method_1_code 5 = .ok (.bipush 8, 2) := by decide +kernel
theorem d_Moi_7 : decode prog_6_method_1_code 7 = .ok (.newarray .int, 2) := by decide +kernel
theorem d_Moi_9 : decode prog_6_method_1_code 9 = .ok (.putfield 9, 3) := by decide +kernel
theorem d_Moi_12 : decode prog_6_method_1_code 12 = .ok (.aload_n 0, 1) := by decide +kernel
theorem d_Moi_13 : decode prog_6_method_1_code 13 = .ok (.bipush 8, 2) := by decide +kernel
theorem d_Moi_15 : decode prog_6_method_1_code 15 = .ok (.newarray .int, 2) := by decide +kernel
theorem d_Moi_17 : decode prog_6_method_1_code 17 = .ok (.putfield 15, 3) := by decide +kernel
theorem d_Moi_20 : decode prog_6_method_1_code 20 = .ok (.aload_n 0, 1) := by decide +kernel
theorem d_Moi_21 : decode prog_6_method_1_code 21 = .ok (.bipush 8, 2) := by decide +kernel
theorem d_Moi_23 : decode prog_6_method_1_code 23 = .ok (.newarray .int, 2) := by decide +kernel
theorem d_Moi_25 : decode prog_6_method_1_code 25 = .ok (.putfield 18, 3) := by decide +kernel
theorem d_Moi_28 : decode prog_6_method_1_code 28 = .ok (.aload_n 0, 1) := by decide +kernel
theorem d_Moi_29 : decode prog_6_method_1_code 29 = .ok (.bipush 32, 2) := by decide +kernel
theorem d_Moi_31 : decode prog_6_method_1_code 31 = .ok (.newarray .int, 2) := by decide +kernel
theorem d_Moi_33 : decode prog_6_method_1_code 33 = .ok (.putfield 21, 3) := by decide +kernel
theorem d_Moi_36 : decode prog_6_method_1_code 36 = .ok (.aload_n 0, 1) := by decide +kernel
theorem d_Moi_37 : decode prog_6_method_1_code 37 = .ok (.iconst (-1), 1) := by decide +kernel
theorem d_Moi_38 : decode prog_6_method_1_code 38 = .ok (.putfield 24, 3) := by decide +kernel
theorem d_Moi_41 : decode prog_6_method_1_code 41 = .ok (.aload_n 0, 1) := by decide +kernel
theorem d_Moi_42 : decode prog_6_method_1_code 42 = .ok (.aload_n 1, 1) := by decide +kernel
theorem d_Moi_43 : decode prog_6_method_1_code 43 = .ok (.putfield 28, 3) := by decide +kernel
theorem d_Moi_46 : decode prog_6_method_1_code 46 = .ok (.aload_n 0, 1) := by decide +kernel
theorem d_Moi_47 : decode prog_6_method_1_code 47 = .ok (.aload_n 2, 1) := by decide +kernel
theorem d_Moi_48 : decode prog_6_method_1_code 48 = .ok (.putfield 32, 3) := by decide +kernel
theorem d_Moi_51 : decode prog_6_method_1_code 51 = .ok (.aload_n 0, 1) := by decide +kernel
theorem d_Moi_52 : decode prog_6_method_1_code 52 = .ok (.new 36, 3) := by decide +kernel
theorem d_Moi_55 : decode prog_6_method_1_code 55 = .ok (.dup, 1) := by decide +kernel
theorem d_Moi_56 : decode prog_6_method_1_code 56 = .ok (.aload_n 1, 1) := by decide +kernel
theorem d_Moi_57 : decode prog_6_method_1_code 57 = .ok (.aload_n 2, 1) := by decide +kernel
theorem d_Moi_58 : decode prog_6_method_1_code 58 = .ok (.invokespecial 38, 3) := by decide +kernel
theorem d_Moi_61 : decode prog_6_method_1_code 61 = .ok (.putfield 41, 3) := by decide +kernel
theorem d_Moi_64 : decode prog_6_method_1_code 64 = .ok (.return_, 1) := by decide +kernel
def w_Moi (kc : Nat → ClassId) (h0 : Nat) (a1 : Nat) (a2 : Nat) (q : Nat → Nat) : va_W := [(h0, .inr (6, [.ref a1, .ref a2, .ref (q 0), .ref (q 8), .ref (q 9), .ref (q 10), .ref (q 11), .int (-1)])), ((q 0), .inr (4, [.ref a1, .ref a2, .ref (q 1), .ref (q 2), .ref (q 3), .ref (q 4), .ref (q 5), .ref (q 6), .ref (q 7), .int 0, .int 0])), ((q 1), .inl (kc 0, 8, .inl (fun _ => 0))), ((q 2), .inl (kc 0, 8, .inl (fun _ => 0))), ((q 3), .inl (kc 0, 8, .inl (fun _ => 0))), ((q 4), .inl (kc 0, 8, .inl (fun _ => 0))), ((q 5), .inl (kc 0, 8, .inl (fun _ => 0))), ((q 6), .inl (kc 0, 8, .inl (fun _ => 0))), ((q 7), .inl (kc 0, 8, .inl (fun _ => 0))), ((q 8), .inl (kc 0, 8, .inl (fun _ => 0))), ((q 9), .inl (kc 0, 8, .inl (fun _ => 0))), ((q 10), .inl (kc 0, 8, .inl (fun _ => 0))), ((q 11), .inl (kc 0, 32, .inl (fun _ => 0)))]
set_option maxHeartbeats 4000000 in
set_option maxRecDepth 100000 in
theorem c_Moi {l : Launch} {D : va_G} (kc : Nat → ClassId) (h0 : Nat) (a1 : Nat) (a2 : Nat) : rz_M l D kc mi_Moi h0 6 [.null, .null, .null, .null, .null, .null, .null, .int 0] [.ref a1, .ref a2] (w_Moi kc h0 a1 a2) := by
  refine rz_enter cn_Mo rfl rfl rfl (by decide +kernel) (Nat.le_of_ble_eq_true rfl) ?_
  intro p e s m below meth c ls A F hin hr hlk hP hD hl
  have hl : lv_has ls 3 [(0, .ref h0), (1, .ref a1), (2, .ref a2)] := hl
  have hS : va_S A s.heap s.heap [] := va_S.rf
  refine lv_aload_n F.1 F.2.1 d_Moi_0 rfl (lv_at hl 0 rfl) ?_
  refine rz_obj F ml_Moi_3 hl (by decide) (Nat.le_of_ble_eq_true rfl) d_Moi_1 ?_
  refine lv_aload_n F.1 F.2.1 d_Moi_4 rfl (lv_at hl 0 rfl) ?_
  refine lv_bipush (v := 8) F.1 F.2.1 d_Moi_5 (by decide) ?_
  refine rz_newI F (N := 8) rfl (by decide) (Nat.le_of_ble_eq_true rfl) (Nat.le_of_ble_eq_true rfl) hP hD hS d_Moi_7 (fun q1 H hP hD hS => ?_)
  refine W.widen (k := 1) (n := 8) (Nat.le_of_ble_eq_true rfl) (Nat.le_of_ble_eq_true rfl) ?_
  have hP : va_P D ra_cl ([(h0, .inr (6, [.null, .null, .null, .null, .null, .null, .null, .int 0])), (q1, .inl (kc 0, 8, .inl (fun _ => 0)))]) H := hP
  have hD : va_D A ([(h0, .inr (6, [.null, .null, .null, .null, .null, .null, .null, .int 0])), (q1, .inl (kc 0, 8, .inl (fun _ => 0)))]) := hD
  refine rz_putF F hin cg_Mo 0 rfl 3 (by decide) fl_Mo_9 rfl rfl rfl rfl (Nat.le_of_ble_eq_true rfl) hP hD hS d_Moi_9 (fun H locs hP hD hS => ?_)
  have hP : va_P D ra_cl ([(h0, .inr (6, [.null, .null, .null, .ref q1, .null, .null, .null, .int 0])), (q1, .inl (kc 0, 8, .inl (fun _ => 0)))]) H := hP
  have hD : va_D A ([(h0, .inr (6, [.null, .null, .null, .ref q1, .null, .null, .null, .int 0])), (q1, .inl (kc 0, 8, .inl (fun _ => 0)))]) := hD
  refine lv_aload_n F.1 F.2.1 d_Moi_12 rfl (lv_at hl 0 rfl) ?_
  refine lv_bipush (v := 8) F.1 F.2.1 d_Moi_13 (by decide) ?_
  refine rz_newI F (N := 8) rfl (by decide) (Nat.le_of_ble_eq_true rfl) (Nat.le_of_ble_eq_true rfl) hP hD hS d_Moi_15 (fun q2 H hP hD hS => ?_)
  refine W.widen (k := 2) (n := 16) (Nat.le_of_ble_eq_true rfl) (Nat.le_of_ble_eq_true rfl) ?_
  have hP : va_P D ra_cl ([(h0, .inr (6, [.null, .null, .null, .ref q1, .null, .null, .null, .int 0])), (q1, .inl (kc 0, 8, .inl (fun _ => 0))), (q2, .inl (kc 0, 8, .inl (fun _ => 0)))]) H := hP
  have hD : va_D A ([(h0, .inr (6, [.null, .null, .null, .ref q1, .null, .null, .null, .int 0])), (q1, .inl (kc 0, 8, .inl (fun _ => 0))), (q2, .inl (kc 0, 8, .inl (fun _ => 0)))]) := hD
  refine rz_putF F hin cg_Mo 0 rfl 4 (by decide) fl_Mo_15 rfl rfl rfl rfl (Nat.le_of_ble_eq_true rfl) hP hD hS d_Moi_17 (fun H locs hP hD hS => ?_)
  have hP : va_P D ra_cl ([(h0, .inr (6, [.null, .null, .null, .ref q1, .ref q2, .null, .null, .int 0])), (q1, .inl (kc 0, 8, .inl (fun _ => 0))), (q2, .inl (kc 0, 8, .inl (fun _ => 0)))]) H := hP
  have hD : va_D A ([(h0, .inr (6, [.null, .null, .null, .ref q1, .ref q2, .null, .null, .int 0])), (q1, .inl (kc 0, 8, .inl (fun _ => 0))), (q2, .inl (kc 0, 8, .inl (fun _ => 0)))]) := hD
  refine lv_aload_n F.1 F.2.1 d_Moi_20 rfl (lv_at hl 0 rfl) ?_
  refine lv_bipush (v := 8) F.1 F.2.1 d_Moi_21 (by decide) ?_
  refine rz_newI F (N := 8) rfl (by decide) (Nat.le_of_ble_eq_true rfl) (Nat.le_of_ble_eq_true rfl) hP hD hS d_Moi_23 (fun q3 H hP hD hS => ?_)
  refine W.widen (k := 3) (n := 24) (Nat.le_of_ble_eq_true rfl) (Nat.le_of_ble_eq_true rfl) ?_
  have hP : va_P D ra_cl ([(h0, .inr (6, [.null, .null, .null, .ref q1, .ref q2, .null, .null, .int 0])), (q1, .inl (kc 0, 8, .inl (fun _ => 0))), (q2, .inl (kc 0, 8, .inl (fun _ => 0))), (q3, .inl (kc 0, 8, .inl (fun _ => 0)))]) H := hP
  have hD : va_D A ([(h0, .inr (6, [.null, .null, .null, .ref q1, .ref q2, .null, .null, .int 0])), (q1, .inl (kc 0, 8, .inl (fun _ => 0))), (q2, .inl (kc 0, 8, .inl (fun _ => 0))), (q3, .inl (kc 0, 8, .inl (fun _ => 0)))]) := hD
  refine rz_putF F hin cg_Mo 0 rfl 5 (by decide) fl_Mo_18 rfl rfl rfl rfl (Nat.le_of_ble_eq_true rfl) hP hD hS d_Moi_25 (fun H locs hP hD hS => ?_)
  have hP : va_P D ra_cl ([(h0, .inr (6, [.null, .null, .null, .ref q1, .ref q2, .ref q3, .null, .int 0])), (q1, .inl (kc 0, 8, .inl (fun _ => 0))), (q2, .inl (kc 0, 8, .inl (fun _ => 0))), (q3, .inl (kc 0, 8, .inl (fun _ => 0)))]) H := hP
  have hD : va_D A ([(h0, .inr (6, [.null, .null, .null, .ref q1, .ref q2, .ref q3, .null, .int 0])), (q1, .inl (kc 0, 8, .inl (fun _ => 0))), (q2, .inl (kc 0, 8, .inl (fun _ => 0))), (q3, .inl (kc 0, 8, .inl (fun _ => 0)))]) := hD
  refine lv_aload_n F.1 F.2.1 d_Moi_28 rfl (lv_at hl 0 rfl) ?_
  refine lv_bipush (v := 32) F.1 F.2.1 d_Moi_29 (by decide) ?_
  refine rz_newI F (N := 32) rfl (by decide) (Nat.le_of_ble_eq_true rfl) (Nat.le_of_ble_eq_true rfl) hP hD hS d_Moi_31 (fun q4 H hP hD hS => ?_)
  refine W.widen (k := 4) (n := 56) (Nat.le_of_ble_eq_true rfl) (Nat.le_of_ble_eq_true rfl) ?_
  have hP : va_P D ra_cl ([(h0, .inr (6, [.null, .null, .null, .ref q1, .ref q2, .ref q3, .null, .int 0])), (q1, .inl (kc 0, 8, .inl (fun _ => 0))), (q2, .inl (kc 0, 8, .inl (fun _ => 0))), (q3, .inl (kc 0, 8, .inl (fun _ => 0))), (q4, .inl (kc 0, 32, .inl (fun _ => 0)))]) H := hP
  have hD : va_D A ([(h0, .inr (6, [.null, .null, .null, .ref q1, .ref q2, .ref q3, .null, .int 0])), (q1, .inl (kc 0, 8, .inl (fun _ => 0))), (q2, .inl (kc 0, 8, .inl (fun _ => 0))), (q3, .inl (kc 0, 8, .inl (fun _ => 0))), (q4, .inl (kc 0, 32, .inl (fun _ => 0)))]) := hD
  refine rz_putF F hin cg_Mo 0 rfl 6 (by decide) fl_Mo_21 rfl rfl rfl rfl (Nat.le_of_ble_eq_true rfl) hP hD hS d_Moi_33 (fun H locs hP hD hS => ?_)
  have hP : va_P D ra_cl ([(h0, .inr (6, [.null, .null, .null, .ref q1, .ref q2, .ref q3, .ref q4, .int 0])), (q1, .inl (kc 0, 8, .inl (fun _ => 0))), (q2, .inl (kc 0, 8, .inl (fun _ => 0))), (q3, .inl (kc 0, 8, .inl (fun _ => 0))), (q4, .inl (kc 0, 32, .inl (fun _ => 0)))]) H := hP
  have hD : va_D A ([(h0, .inr (6, [.null, .null, .null, .ref q1, .ref q2, .ref q3, .ref q4, .int 0])), (q1, .inl (kc 0, 8, .inl (fun _ => 0))), (q2, .inl (kc 0, 8, .inl (fun _ => 0))), (q3, .inl (kc 0, 8, .inl (fun _ => 0))), (q4, .inl (kc 0, 32, .inl (fun _ => 0)))]) := hD
  refine lv_aload_n F.1 F.2.1 d_Moi_36 rfl (lv_at hl 0 rfl) ?_
  refine lv_iconst (v := (-1)) F.1 F.2.1 d_Moi_37 (by decide) ?_
  refine rz_put F cg_Mo 0 rfl 7 (by decide) fl_Mo_24 rfl rfl rfl (Nat.le_of_ble_eq_true rfl) hP hD hS d_Moi_38 (fun H locs hP hD hS => ?_)
  have hP : va_P D ra_cl ([(h0, .inr (6, [.null, .null, .null, .ref q1, .ref q2, .ref q3, .ref q4, .int (-1)])), (q1, .inl (kc 0, 8, .inl (fun _ => 0))), (q2, .inl (kc 0, 8, .inl (fun _ => 0))), (q3, .inl (kc 0, 8, .inl (fun _ => 0))), (q4, .inl (kc 0, 32, .inl (fun _ => 0)))]) H := hP
  have hD : va_D A ([(h0, .inr (6, [.null, .null, .null, .ref q1, .ref q2, .ref q3, .ref q4, .int (-1)])), (q1, .inl (kc 0, 8, .inl (fun _ => 0))), (q2, .inl (kc 0, 8, .inl (fun _ => 0))), (q3, .inl (kc 0, 8, .inl (fun _ => 0))), (q4, .inl (kc 0, 32, .inl (fun _ => 0)))]) := hD
  refine lv_aload_n F.1 F.2.1 d_Moi_41 rfl (lv_at hl 0 rfl) ?_
  refine lv_aload_n F.1 F.2.1 d_Moi_42 rfl (lv_at hl 1 rfl) ?_
  refine rz_putF F hin cg_Mo 0 rfl 0 (by decide) fl_Mo_28 rfl rfl rfl rfl (Nat.le_of_ble_eq_true rfl) hP hD hS d_Moi_43 (fun H locs hP hD hS => ?_)
  have hP : va_P D ra_cl ([(h0, .inr (6, [.ref a1, .null, .null, .ref q1, .ref q2, .ref q3, .ref q4, .int (-1)])), (q1, .inl (kc 0, 8, .inl (fun _ => 0))), (q2, .inl (kc 0, 8, .inl (fun _ => 0))), (q3, .inl (kc 0, 8, .inl (fun _ => 0))), (q4, .inl (kc 0, 32, .inl (fun _ => 0)))]) H := hP
  have hD : va_D A ([(h0, .inr (6, [.ref a1, .null, .null, .ref q1, .ref q2, .ref q3, .ref q4, .int (-1)])), (q1, .inl (kc 0, 8, .inl (fun _ => 0))), (q2, .inl (kc 0, 8, .inl (fun _ => 0))), (q3, .inl (kc 0, 8, .inl (fun _ => 0))), (q4, .inl (kc 0, 32, .inl (fun _ => 0)))]) := hD
  refine lv_aload_n F.1 F.2.1 d_Moi_46 rfl (lv_at hl 0 rfl) ?_
  refine lv_aload_n F.1 F.2.1 d_Moi_47 rfl (lv_at hl 2 rfl) ?_
  refine rz_putF F hin cg_Mo 0 rfl 1 (by decide) fl_Mo_32 rfl rfl rfl rfl (Nat.le_of_ble_eq_true rfl) hP hD hS d_Moi_48 (fun H locs hP hD hS => ?_)
  have hP : va_P D ra_cl ([(h0, .inr (6, [.ref a1, .ref a2, .null, .ref q1, .ref q2, .ref q3, .ref q4, .int (-1)])), (q1, .inl (kc 0, 8, .inl (fun _ => 0))), (q2, .inl (kc 0, 8, .inl (fun _ => 0))), (q3, .inl (kc 0, 8, .inl (fun _ => 0))), (q4, .inl (kc 0, 32, .inl (fun _ => 0)))]) H := hP
  have hD : va_D A ([(h0, .inr (6, [.ref a1, .ref a2, .null, .ref q1, .ref q2, .ref q3, .ref q4, .int (-1)])), (q1, .inl (kc 0, 8, .inl (fun _ => 0))), (q2, .inl (kc 0, 8, .inl (fun _ => 0))), (q3, .inl (kc 0, 8, .inl (fun _ => 0))), (q4, .inl (kc 0, 32, .inl (fun _ => 0)))]) := hD
  refine lv_aload_n F.1 F.2.1 d_Moi_51 rfl (lv_at hl 0 rfl) ?_
  refine rz_new F cg_Co (fs := [.null, .null, .null, .null, .null, .null, .null, .null, .null, .int 0, .int 0]) (fun j hj => by have : j < 11 := hj; revert j; decide) cl_Moi_36 jn_Coi ji_Coi (Nat.le_of_ble_eq_true rfl) (Nat.le_of_ble_eq_true rfl) hP hD hS d_Moi_52 (fun q5 H hP hD hS => ?_)
  refine W.widen (k := 5) (n := 67) (Nat.le_of_ble_eq_true rfl) (Nat.le_of_ble_eq_true rfl) ?_
  have hP : va_P D ra_cl ([(h0, .inr (6, [.ref a1, .ref a2, .null, .ref q1, .ref q2, .ref q3, .ref q4, .int (-1)])), (q1, .inl (kc 0, 8, .inl (fun _ => 0))), (q2, .inl (kc 0, 8, .inl (fun _ => 0))), (q3, .inl (kc 0, 8, .inl (fun _ => 0))), (q4, .inl (kc 0, 32, .inl (fun _ => 0))), (q5, .inr (4, [.null, .null, .null, .null, .null, .null, .null, .null, .null, .int 0, .int 0]))]) H := hP
  have hD : va_D A ([(h0, .inr (6, [.ref a1, .ref a2, .null, .ref q1, .ref q2, .ref q3, .ref q4, .int (-1)])), (q1, .inl (kc 0, 8, .inl (fun _ => 0))), (q2, .inl (kc 0, 8, .inl (fun _ => 0))), (q3, .inl (kc 0, 8, .inl (fun _ => 0))), (q4, .inl (kc 0, 32, .inl (fun _ => 0))), (q5, .inr (4, [.null, .null, .null, .null, .null, .null, .null, .null, .null, .int 0, .int 0]))]) := hD
  refine lv_dup F.1 F.2.1 d_Moi_55 rfl ?_
  refine lv_aload_n F.1 F.2.1 d_Moi_56 rfl (lv_at hl 1 rfl) ?_
  refine lv_aload_n F.1 F.2.1 d_Moi_57 rfl (lv_at hl 2 rfl) ?_
  refine rz_callI (wr := [(h0, .inr (6, [.ref a1, .ref a2, .null, .ref q1, .ref q2, .ref q3, .ref q4, .int (-1)])), (q1, .inl (kc 0, 8, .inl (fun _ => 0))), (q2, .inl (kc 0, 8, .inl (fun _ => 0))), (q3, .inl (kc 0, 8, .inl (fun _ => 0))), (q4, .inl (kc 0, 32, .inl (fun _ => 0)))]) (As := [.ref a1, .ref a2]) (rest := [.ref q5, .ref h0]) F (c_Coi kc q5 a1 a2) rfl jc_Coi ji_Coi ml_Moi_38 jm_Coi rfl ⟨by decide +kernel, by decide +kernel, by show _ = some 2; decide +kernel⟩ ⟨Nat.le_of_ble_eq_true rfl, Nat.le_of_ble_eq_true rfl⟩ ⟨Nat.le_of_ble_eq_true rfl, Nat.le_of_ble_eq_true rfl⟩ hP hD hS hl rfl (Nat.le_of_ble_eq_true rfl) d_Moi_58 (fun u6 H locs hP hD hS => ?_)
  refine W.widen (k := 12) (n := 123) (Nat.le_of_ble_eq_true rfl) (Nat.le_of_ble_eq_true rfl) ?_
  have hP : va_P D ra_cl ([(h0, .inr (6, [.ref a1, .ref a2, .null, .ref q1, .ref q2, .ref q3, .ref q4, .int (-1)])), (q1, .inl (kc 0, 8, .inl (fun _ => 0))), (q2, .inl (kc 0, 8, .inl (fun _ => 0))), (q3, .inl (kc 0, 8, .inl (fun _ => 0))), (q4, .inl (kc 0, 32, .inl (fun _ => 0))), (q5, .inr (4, [.ref a1, .ref a2, .ref (u6 0), .ref (u6 1), .ref (u6 2), .ref (u6 3), .ref (u6 4), .ref (u6 5), .ref (u6 6), .int 0, .int 0])), ((u6 0), .inl (kc 0, 8, .inl (fun _ => 0))), ((u6 1), .inl (kc 0, 8, .inl (fun _ => 0))), ((u6 2), .inl (kc 0, 8, .inl (fun _ => 0))), ((u6 3), .inl (kc 0, 8, .inl (fun _ => 0))), ((u6 4), .inl (kc 0, 8, .inl (fun _ => 0))), ((u6 5), .inl (kc 0, 8, .inl (fun _ => 0))), ((u6 6), .inl (kc 0, 8, .inl (fun _ => 0)))]) H := hP
  have hD : va_D A ([(h0, .inr (6, [.ref a1, .ref a2, .null, .ref q1, .ref q2, .ref q3, .ref q4, .int (-1)])), (q1, .inl (kc 0, 8, .inl (fun _ => 0))), (q2, .inl (kc 0, 8, .inl (fun _ => 0))), (q3, .inl (kc 0, 8, .inl (fun _ => 0))), (q4, .inl (kc 0, 32, .inl (fun _ => 0))), (q5, .inr (4, [.ref a1, .ref a2, .ref (u6 0), .ref (u6 1), .ref (u6 2), .ref (u6 3), .ref (u6 4), .ref (u6 5), .ref (u6 6), .int 0, .int 0])), ((u6 0), .inl (kc 0, 8, .inl (fun _ => 0))), ((u6 1), .inl (kc 0, 8, .inl (fun _ => 0))), ((u6 2), .inl (kc 0, 8, .inl (fun _ => 0))), ((u6 3), .inl (kc 0, 8, .inl (fun _ => 0))), ((u6 4), .inl (kc 0, 8, .inl (fun _ => 0))), ((u6 5), .inl (kc 0, 8, .inl (fun _ => 0))), ((u6 6), .inl (kc 0, 8, .inl (fun _ => 0)))]) := hD
  refine rz_putF F hin cg_Mo 0 rfl 2 (by decide) fl_Mo_41 rfl rfl rfl rfl (Nat.le_of_ble_eq_true rfl) hP hD hS d_Moi_61 (fun H locs hP hD hS => ?_)
  have hP : va_P D ra_cl ([(h0, .inr (6, [.ref a1, .ref a2, .ref q5, .ref q1, .ref q2, .ref q3, .ref q4, .int (-1)])), (q1, .inl (kc 0, 8, .inl (fun _ => 0))), (q2, .inl (kc 0, 8, .inl (fun _ => 0))), (q3, .inl (kc 0, 8, .inl (fun _ => 0))), (q4, .inl (kc 0, 32, .inl (fun _ => 0))), (q5, .inr (4, [.ref a1, .ref a2, .ref (u6 0), .ref (u6 1), .ref (u6 2), .ref (u6 3), .ref (u6 4), .ref (u6 5), .ref (u6 6), .int 0, .int 0])), ((u6 0), .inl (kc 0, 8, .inl (fun _ => 0))), ((u6 1), .inl (kc 0, 8, .inl (fun _ => 0))), ((u6 2), .inl (kc 0, 8, .inl (fun _ => 0))), ((u6 3), .inl (kc 0, 8, .inl (fun _ => 0))), ((u6 4), .inl (kc 0, 8, .inl (fun _ => 0))), ((u6 5), .inl (kc 0, 8, .inl (fun _ => 0))), ((u6 6), .inl (kc 0, 8, .inl (fun _ => 0)))]) H := hP
  have hD : va_D A ([(h0, .inr (6, [.ref a1, .ref a2, .ref q5, .ref q1, .ref q2, .ref q3, .ref q4, .int (-1)])), (q1, .inl (kc 0, 8, .inl (fun _ => 0))), (q2, .inl (kc 0, 8, .inl (fun _ => 0))), (q3, .inl (kc 0, 8, .inl (fun _ => 0))), (q4, .inl (kc 0, 32, .inl (fun _ => 0))), (q5, .inr (4, [.ref a1, .ref a2, .ref (u6 0), .ref (u6 1), .ref (u6 2), .ref (u6 3), .ref (u6 4), .ref (u6 5), .ref (u6 6), .int 0, .int 0])), ((u6 0), .inl (kc 0, 8, .inl (fun _ => 0))), ((u6 1), .inl (kc 0, 8, .inl (fun _ => 0))), ((u6 2), .inl (kc 0, 8, .inl (fun _ => 0))), ((u6 3), .inl (kc 0, 8, .inl (fun _ => 0))), ((u6 4), .inl (kc 0, 8, .inl (fun _ => 0))), ((u6 5), .inl (kc 0, 8, .inl (fun _ => 0))), ((u6 6), .inl (kc 0, 8, .inl (fun _ => 0)))]) := hD
  have hP9 := hP.sub (ws' := w_Moi kc h0 a1 a2 (fun j => [q5, u6 0, u6 1, u6 2, u6 3, u6 4, u6 5, u6 6, q1, q2, q3, q4].getD j 0)) [0, 5, 6, 7, 8, 9, 10, 11, 12, 1, 2, 3, 4] rfl
  have hD9 := hD.sub (ws' := w_Moi kc h0 a1 a2 (fun j => [q5, u6 0, u6 1, u6 2, u6 3, u6 4, u6 5, u6 6, q1, q2, q3, q4].getD j 0)) [0, 5, 6, 7, 8, 9, 10, 11, 12, 1, 2, 3, 4] (by decide) rfl
  exact rz_ret (w := w_Moi kc h0 a1 a2) F hr hlk (fun j => [q5, u6 0, u6 1, u6 2, u6 3, u6 4, u6 5, u6 6, q1, q2, q3, q4].getD j 0) hP9 hD9 hS (Nat.le_of_ble_eq_true rfl) (Nat.le_of_ble_eq_true rfl) d_Moi_64
/-! RoofAcross$Exchange() -/
def rm_Exi : Room := { frames := 1, cells := 12, slots := 344, locals := 64 }
abbrev mi_Exi : ra_MI := (⟨cn_Ex, "<init>", "(LRoofAcross$Village;)V"⟩, prog_3_method_1_code, 2, none, rm_Exi, 2)
set_option maxRecDepth 100000 in
theorem jc_Exi : Cond.code (mi_Exi).1 (mi_Exi).2.1 (mi_Exi).2.2.1 (mi_Exi).2.2.2.1 ∈ ra_WS := ra_in 326 (by decide +kernel) (by decide +kernel)
set_option maxRecDepth 100000 in
theorem ji_Exi : Cond.initialized (mi_Exi).1.cls ∈ ra_WS := ra_in 69 (by decide +kernel) (by decide +kernel)
set_option maxRecDepth 100000 in
theorem jm_Exi : Cond.instanceMethod (mi_Exi).1 ∈ ra_WS := ra_in 325 (by decide +kernel) (by decide +kernel)
set_option maxRecDepth 100000 in
theorem jn_Exi : Cond.instantiable cn_Ex 11 ∈ ra_WS := ra_in 323 (by decide +kernel) (by decide +kernel)
set_option maxRecDepth 100000 in
theorem ml_Exi_3 : Cond.methodLink cn_Ex 3 Lib.objectInit ∈ ra_WS := ra_in 327 (by decide +kernel) (by decide +kernel)
set_option maxRecDepth 100000 in
theorem cl_Exi_9 : Cond.classLink cn_Ex 9 "[[I" ∈ ra_WS := ra_in 328 (by decide +kernel) (by decide +kernel)
theorem d_Exi_0 : decode prog_3_method_1_code 0 = .ok (.aload_n 0, 1) := by decide +kernel
theorem d_Exi_1 : decode prog_3_method_1_code 1 = .ok (.invokespecial 3, 3) := by decide +kernel
theorem d_Exi_4 : decode prog_3_method_1_code 4 = .ok (.aload_n 0, 1) := by decide +kernel
theorem d_Exi_5 : decode prog_3_method_1_code 5 = .ok (.bipush 8, 2) := by decide +kernel
theorem d_Exi_7 : decode prog_3_method_1_code 7 = .ok (.bipush 8, 2) := by decide +kernel
theorem d_Exi_9 : decode prog_3_method_1_code 9 = .ok (.multianewarray 9 2, 4) := by decide +kernel
theorem d_Exi_13 : decode prog_3_method_1_code 13 = .ok (.putfield 11, 3) := by decide +kernel
theorem d_Exi_16 : decode prog_3_method_1_code 16 = .ok (.aload_n 0, 1) := by decide +kernel
theorem d_Exi_17 : decode prog_3_method_1_code 17 = .ok (.bipush 8, 2) := by decide +kernel
theorem d_Exi_19 : decode prog_3_method_1_code 19 = .ok (.newarray .int, 2) := by decide +kernel
theorem d_Exi_21 : decode prog_3_method_1_code 21 = .ok (.putfield 16, 3) := by decide +kernel
theorem d_Exi_24 : decode prog_3_method_1_code 24 = .ok (.aload_n 0, 1) := by decide +kernel
theorem d_Exi_25 : decode prog_3_method_1_code 25 = .ok (.bipush 8, 2) := by decide +kernel
theorem d_Exi_27 : decode prog_3_method_1_code 27 = .ok (.newarray .int, 2) := by decide +kernel
theorem d_Exi_29 : decode prog_3_method_1_code 29 = .ok (.putfield 20, 3) := by decide +kernel
theorem d_Exi_32 : decode prog_3_method_1_code 32 = .ok (.aload_n 0, 1) := by decide +kernel
theorem d_Exi_33 : decode prog_3_method_1_code 33 = .ok (.sipush 256, 3) := by decide +kernel
theorem d_Exi_36 : decode prog_3_method_1_code 36 = .ok (.newarray .int, 2) := by decide +kernel
theorem d_Exi_38 : decode prog_3_method_1_code 38 = .ok (.putfield 23, 3) := by decide +kernel
theorem d_Exi_41 : decode prog_3_method_1_code 41 = .ok (.aload_n 0, 1) := by decide +kernel
theorem d_Exi_42 : decode prog_3_method_1_code 42 = .ok (.iconst (-1), 1) := by decide +kernel
theorem d_Exi_43 : decode prog_3_method_1_code 43 = .ok (.putfield 26, 3) := by decide +kernel
theorem d_Exi_46 : decode prog_3_method_1_code 46 = .ok (.aload_n 0, 1) := by decide +kernel
theorem d_Exi_47 : decode prog_3_method_1_code 47 = .ok (.iconst (-1), 1) := by decide +kernel
theorem d_Exi_48 : decode prog_3_method_1_code 48 = .ok (.putfield 30, 3) := by decide +kernel
theorem d_Exi_51 : decode prog_3_method_1_code 51 = .ok (.aload_n 0, 1) := by decide +kernel
theorem d_Exi_52 : decode prog_3_method_1_code 52 = .ok (.aload_n 1, 1) := by decide +kernel
theorem d_Exi_53 : decode prog_3_method_1_code 53 = .ok (.putfield 33, 3) := by decide +kernel
theorem d_Exi_56 : decode prog_3_method_1_code 56 = .ok (.return_, 1) := by decide +kernel
def w_Exi (kc : Nat → ClassId) (h0 : Nat) (a1 : Nat) (q : Nat → Nat) : va_W := [(h0, .inr (7, [.ref a1, .ref (q 0), .ref (q 9), .ref (q 10), .ref (q 11), .int 0, .int 0, .int 0, .int 0, .int (-1), .int (-1)])), ((q 0), .inl (kc 2, 8, .inr (.inr (.inr (.inr (fun i => if i < 8 then some (q (1 + i)) else none)))))), ((q 1), .inl (kc 0, 8, .inl (fun _ => 0))), ((q 2), .inl (kc 0, 8, .inl (fun _ => 0))), ((q 3), .inl (kc 0, 8, .inl (fun _ => 0))), ((q 4), .inl (kc 0, 8, .inl (fun _ => 0))), ((q 5), .inl (kc 0, 8, .inl (fun _ => 0))), ((q 6), .inl (kc 0, 8, .inl (fun _ => 0))), ((q 7), .inl (kc 0, 8, .inl (fun _ => 0))), ((q 8), .inl (kc 0, 8, .inl (fun _ => 0))), ((q 9), .inl (kc 0, 8, .inl (fun _ => 0))), ((q 10), .inl (kc 0, 8, .inl (fun _ => 0))), ((q 11), .inl (kc 0, 256, .inl (fun _ => 0)))]
set_option maxHeartbeats 4000000 in
set_option maxRecDepth 100000 in
theorem c_Exi {l : Launch} {D : va_G} (kc : Nat → ClassId) (h0 : Nat) (a1 : Nat) : rz_M l D kc mi_Exi h0 7 [.null, .null, .null, .null, .null, .int 0, .int 0, .int 0, .int 0, .int 0, .int 0] [.ref a1] (w_Exi kc h0 a1) := by
  refine rz_enter cn_Ex rfl rfl rfl (by decide +kernel) (Nat.le_of_ble_eq_true rfl) ?_
  intro p e s m below meth c ls A F hin hr hlk hP hD hl
  have hl : lv_has ls 2 [(0, .ref h0), (1, .ref a1)] := hl
  have hS : va_S A s.heap s.heap [] := va_S.rf
  refine lv_aload_n F.1 F.2.1 d_Exi_0 rfl (lv_at hl 0 rfl) ?_
  refine rz_obj F ml_Exi_3 hl (by decide) (Nat.le_of_ble_eq_true rfl) d_Exi_1 ?_
  refine lv_aload_n F.1 F.2.1 d_Exi_4 rfl (lv_at hl 0 rfl) ?_
  refine lv_bipush (v := 8) F.1 F.2.1 d_Exi_5 (by decide) ?_
  refine lv_bipush (v := 8) F.1 F.2.1 d_Exi_7 (by decide) ?_
  refine rz_mna F (N := 8) (K := 8) rfl rfl (by decide) (by decide) cl_Exi_9 (Nat.le_of_ble_eq_true rfl) (Nat.le_of_ble_eq_true rfl) hP hD hS d_Exi_9 (fun q1 r2 H hP hD hS => ?_)
  refine W.widen (k := 9) (n := 72) (Nat.le_of_ble_eq_true rfl) (Nat.le_of_ble_eq_true rfl) ?_
  have hP : va_P D ra_cl ([(h0, .inr (7, [.null, .null, .null, .null, .null, .int 0, .int 0, .int 0, .int 0, .int 0, .int 0])), (q1, .inl (kc 2, 8, .inr (.inr (.inr (.inr (fun i => if i < 8 then some (r2 i) else none)))))), ((r2 0), .inl (kc 0, 8, .inl (fun _ => 0))), ((r2 1), .inl (kc 0, 8, .inl (fun _ => 0))), ((r2 2), .inl (kc 0, 8, .inl (fun _ => 0))), ((r2 3), .inl (kc 0, 8, .inl (fun _ => 0))), ((r2 4), .inl (kc 0, 8, .inl (fun _ => 0))), ((r2 5), .inl (kc 0, 8, .inl (fun _ => 0))), ((r2 6), .inl (kc 0, 8, .inl (fun _ => 0))), ((r2 7), .inl (kc 0, 8, .inl (fun _ => 0)))]) H := hP
  have hD : va_D A ([(h0, .inr (7, [.null, .null, .null, .null, .null, .int 0, .int 0, .int 0, .int 0, .int 0, .int 0])), (q1, .inl (kc 2, 8, .inr (.inr (.inr (.inr (fun i => if i < 8 then some (r2 i) else none)))))), ((r2 0), .inl (kc 0, 8, .inl (fun _ => 0))), ((r2 1), .inl (kc 0, 8, .inl (fun _ => 0))), ((r2 2), .inl (kc 0, 8, .inl (fun _ => 0))), ((r2 3), .inl (kc 0, 8, .inl (fun _ => 0))), ((r2 4), .inl (kc 0, 8, .inl (fun _ => 0))), ((r2 5), .inl (kc 0, 8, .inl (fun _ => 0))), ((r2 6), .inl (kc 0, 8, .inl (fun _ => 0))), ((r2 7), .inl (kc 0, 8, .inl (fun _ => 0)))]) := hD
  refine rz_putF F hin cg_Ex 0 rfl 1 (by decide) fl_Ex_11 rfl rfl rfl rfl (Nat.le_of_ble_eq_true rfl) hP hD hS d_Exi_13 (fun H locs hP hD hS => ?_)
  have hP : va_P D ra_cl ([(h0, .inr (7, [.null, .ref q1, .null, .null, .null, .int 0, .int 0, .int 0, .int 0, .int 0, .int 0])), (q1, .inl (kc 2, 8, .inr (.inr (.inr (.inr (fun i => if i < 8 then some (r2 i) else none)))))), ((r2 0), .inl (kc 0, 8, .inl (fun _ => 0))), ((r2 1), .inl (kc 0, 8, .inl (fun _ => 0))), ((r2 2), .inl (kc 0, 8, .inl (fun _ => 0))), ((r2 3), .inl (kc 0, 8, .inl (fun _ => 0))), ((r2 4), .inl (kc 0, 8, .inl (fun _ => 0))), ((r2 5), .inl (kc 0, 8, .inl (fun _ => 0))), ((r2 6), .inl (kc 0, 8, .inl (fun _ => 0))), ((r2 7), .inl (kc 0, 8, .inl (fun _ => 0)))]) H := hP
  have hD : va_D A ([(h0, .inr (7, [.null, .ref q1, .null, .null, .null, .int 0, .int 0, .int 0, .int 0, .int 0, .int 0])), (q1, .inl (kc 2, 8, .inr (.inr (.inr (.inr (fun i => if i < 8 then some (r2 i) else none)))))), ((r2 0), .inl (kc 0, 8, .inl (fun _ => 0))), ((r2 1), .inl (kc 0, 8, .inl (fun _ => 0))), ((r2 2), .inl (kc 0, 8, .inl (fun _ => 0))), ((r2 3), .inl (kc 0, 8, .inl (fun _ => 0))), ((r2 4), .inl (kc 0, 8, .inl (fun _ => 0))), ((r2 5), .inl (kc 0, 8, .inl (fun _ => 0))), ((r2 6), .inl (kc 0, 8, .inl (fun _ => 0))), ((r2 7), .inl (kc 0, 8, .inl (fun _ => 0)))]) := hD
  refine lv_aload_n F.1 F.2.1 d_Exi_16 rfl (lv_at hl 0 rfl) ?_
  refine lv_bipush (v := 8) F.1 F.2.1 d_Exi_17 (by decide) ?_
  refine rz_newI F (N := 8) rfl (by decide) (Nat.le_of_ble_eq_true rfl) (Nat.le_of_ble_eq_true rfl) hP hD hS d_Exi_19 (fun q3 H hP hD hS => ?_)
  refine W.widen (k := 10) (n := 80) (Nat.le_of_ble_eq_true rfl) (Nat.le_of_ble_eq_true rfl) ?_
  have hP : va_P D ra_cl ([(h0, .inr (7, [.null, .ref q1, .null, .null, .null, .int 0, .int 0, .int 0, .int 0, .int 0, .int 0])), (q1, .inl (kc 2, 8, .inr (.inr (.inr (.inr (fun i => if i < 8 then some (r2 i) else none)))))), ((r2 0), .inl (kc 0, 8, .inl (fun _ => 0))), ((r2 1), .inl (kc 0, 8, .inl (fun _ => 0))), ((r2 2), .inl (kc 0, 8, .inl (fun _ => 0))), ((r2 3), .inl (kc 0, 8, .inl (fun _ => 0))), ((r2 4), .inl (kc 0, 8, .inl (fun _ => 0))), ((r2 5), .inl (kc 0, 8, .inl (fun _ => 0))), ((r2 6), .inl (kc 0, 8, .inl (fun _ => 0))), ((r2 7), .inl (kc 0, 8, .inl (fun _ => 0))), (q3, .inl (kc 0, 8, .inl (fun _ => 0)))]) H := hP
  have hD : va_D A ([(h0, .inr (7, [.null, .ref q1, .null, .null, .null, .int 0, .int 0, .int 0, .int 0, .int 0, .int 0])), (q1, .inl (kc 2, 8, .inr (.inr (.inr (.inr (fun i => if i < 8 then some (r2 i) else none)))))), ((r2 0), .inl (kc 0, 8, .inl (fun _ => 0))), ((r2 1), .inl (kc 0, 8, .inl (fun _ => 0))), ((r2 2), .inl (kc 0, 8, .inl (fun _ => 0))), ((r2 3), .inl (kc 0, 8, .inl (fun _ => 0))), ((r2 4), .inl (kc 0, 8, .inl (fun _ => 0))), ((r2 5), .inl (kc 0, 8, .inl (fun _ => 0))), ((r2 6), .inl (kc 0, 8, .inl (fun _ => 0))), ((r2 7), .inl (kc 0, 8, .inl (fun _ => 0))), (q3, .inl (kc 0, 8, .inl (fun _ => 0)))]) := hD
  refine rz_putF F hin cg_Ex 0 rfl 2 (by decide) fl_Ex_16 rfl rfl rfl rfl (Nat.le_of_ble_eq_true rfl) hP hD hS d_Exi_21 (fun H locs hP hD hS => ?_)
  have hP : va_P D ra_cl ([(h0, .inr (7, [.null, .ref q1, .ref q3, .null, .null, .int 0, .int 0, .int 0, .int 0, .int 0, .int 0])), (q1, .inl (kc 2, 8, .inr (.inr (.inr (.inr (fun i => if i < 8 then some (r2 i) else none)))))), ((r2 0), .inl (kc 0, 8, .inl (fun _ => 0))), ((r2 1), .inl (kc 0, 8, .inl (fun _ => 0))), ((r2 2), .inl (kc 0, 8, .inl (fun _ => 0))), ((r2 3), .inl (kc 0, 8, .inl (fun _ => 0))), ((r2 4), .inl (kc 0, 8, .inl (fun _ => 0))), ((r2 5), .inl (kc 0, 8, .inl (fun _ => 0))), ((r2 6), .inl (kc 0, 8, .inl (fun _ => 0))), ((r2 7), .inl (kc 0, 8, .inl (fun _ => 0))), (q3, .inl (kc 0, 8, .inl (fun _ => 0)))]) H := hP
  have hD : va_D A ([(h0, .inr (7, [.null, .ref q1, .ref q3, .null, .null, .int 0, .int 0, .int 0, .int 0, .int 0, .int 0])), (q1, .inl (kc 2, 8, .inr (.inr (.inr (.inr (fun i => if i < 8 then some (r2 i) else none)))))), ((r2 0), .inl (kc 0, 8, .inl (fun _ => 0))), ((r2 1), .inl (kc 0, 8, .inl (fun _ => 0))), ((r2 2), .inl (kc 0, 8, .inl (fun _ => 0))), ((r2 3), .inl (kc 0, 8, .inl (fun _ => 0))), ((r2 4), .inl (kc 0, 8, .inl (fun _ => 0))), ((r2 5), .inl (kc 0, 8, .inl (fun _ => 0))), ((r2 6), .inl (kc 0, 8, .inl (fun _ => 0))), ((r2 7), .inl (kc 0, 8, .inl (fun _ => 0))), (q3, .inl (kc 0, 8, .inl (fun _ => 0)))]) := hD
  refine lv_aload_n F.1 F.2.1 d_Exi_24 rfl (lv_at hl 0 rfl) ?_
  refine lv_bipush (v := 8) F.1 F.2.1 d_Exi_25 (by decide) ?_
  refine rz_newI F (N := 8) rfl (by decide) (Nat.le_of_ble_eq_true rfl) (Nat.le_of_ble_eq_true rfl) hP hD hS d_Exi_27 (fun q4 H hP hD hS => ?_)
  refine W.widen (k := 11) (n := 88) (Nat.le_of_ble_eq_true rfl) (Nat.le_of_ble_eq_true rfl) ?_
  have hP : va_P D ra_cl ([(h0, .inr (7, [.null, .ref q1, .ref q3, .null, .null, .int 0, .int 0, .int 0, .int 0, .int 0, .int 0])), (q1, .inl (kc 2, 8, .inr (.inr (.inr (.inr (fun i => if i < 8 then some (r2 i) else none)))))), ((r2 0), .inl (kc 0, 8, .inl (fun _ => 0))), ((r2 1), .inl (kc 0, 8, .inl (fun _ => 0))), ((r2 2), .inl (kc 0, 8, .inl (fun _ => 0))), ((r2 3), .inl (kc 0, 8, .inl (fun _ => 0))), ((r2 4), .inl (kc 0, 8, .inl (fun _ => 0))), ((r2 5), .inl (kc 0, 8, .inl (fun _ => 0))), ((r2 6), .inl (kc 0, 8, .inl (fun _ => 0))), ((r2 7), .inl (kc 0, 8, .inl (fun _ => 0))), (q3, .inl (kc 0, 8, .inl (fun _ => 0))), (q4, .inl (kc 0, 8, .inl (fun _ => 0)))]) H := hP
  have hD : va_D A ([(h0, .inr (7, [.null, .ref q1, .ref q3, .null, .null, .int 0, .int 0, .int 0, .int 0, .int 0, .int 0])), (q1, .inl (kc 2, 8, .inr (.inr (.inr (.inr (fun i => if i < 8 then some (r2 i) else none)))))), ((r2 0), .inl (kc 0, 8, .inl (fun _ => 0))), ((r2 1), .inl (kc 0, 8, .inl (fun _ => 0))), ((r2 2), .inl (kc 0, 8, .inl (fun _ => 0))), ((r2 3), .inl (kc 0, 8, .inl (fun _ => 0))), ((r2 4), .inl (kc 0, 8, .inl (fun _ => 0))), ((r2 5), .inl (kc 0, 8, .inl (fun _ => 0))), ((r2 6), .inl (kc 0, 8, .inl (fun _ => 0))), ((r2 7), .inl (kc 0, 8, .inl (fun _ => 0))), (q3, .inl (kc 0, 8, .inl (fun _ => 0))), (q4, .inl (kc 0, 8, .inl (fun _ => 0)))]) := hD
  refine rz_putF F hin cg_Ex 0 rfl 3 (by decide) fl_Ex_20 rfl rfl rfl rfl (Nat.le_of_ble_eq_true rfl) hP hD hS d_Exi_29 (fun H locs hP hD hS => ?_)
  have hP : va_P D ra_cl ([(h0, .inr (7, [.null, .ref q1, .ref q3, .ref q4, .null, .int 0, .int 0, .int 0, .int 0, .int 0, .int 0])), (q1, .inl (kc 2, 8, .inr (.inr (.inr (.inr (fun i => if i < 8 then some (r2 i) else none)))))), ((r2 0), .inl (kc 0, 8, .inl (fun _ => 0))), ((r2 1), .inl (kc 0, 8, .inl (fun _ => 0))), ((r2 2), .inl (kc 0, 8, .inl (fun _ => 0))), ((r2 3), .inl (kc 0, 8, .inl (fun _ => 0))), ((r2 4), .inl (kc 0, 8, .inl (fun _ => 0))), ((r2 5), .inl (kc 0, 8, .inl (fun _ => 0))), ((r2 6), .inl (kc 0, 8, .inl (fun _ => 0))), ((r2 7), .inl (kc 0, 8, .inl (fun _ => 0))), (q3, .inl (kc 0, 8, .inl (fun _ => 0))), (q4, .inl (kc 0, 8, .inl (fun _ => 0)))]) H := hP
  have hD : va_D A ([(h0, .inr (7, [.null, .ref q1, .ref q3, .ref q4, .null, .int 0, .int 0, .int 0, .int 0, .int 0, .int 0])), (q1, .inl (kc 2, 8, .inr (.inr (.inr (.inr (fun i => if i < 8 then some (r2 i) else none)))))), ((r2 0), .inl (kc 0, 8, .inl (fun _ => 0))), ((r2 1), .inl (kc 0, 8, .inl (fun _ => 0))), ((r2 2), .inl (kc 0, 8, .inl (fun _ => 0))), ((r2 3), .inl (kc 0, 8, .inl (fun _ => 0))), ((r2 4), .inl (kc 0, 8, .inl (fun _ => 0))), ((r2 5), .inl (kc 0, 8, .inl (fun _ => 0))), ((r2 6), .inl (kc 0, 8, .inl (fun _ => 0))), ((r2 7), .inl (kc 0, 8, .inl (fun _ => 0))), (q3, .inl (kc 0, 8, .inl (fun _ => 0))), (q4, .inl (kc 0, 8, .inl (fun _ => 0)))]) := hD
  refine lv_aload_n F.1 F.2.1 d_Exi_32 rfl (lv_at hl 0 rfl) ?_
  refine lv_sipush (v := 256) F.1 F.2.1 d_Exi_33 (by decide) ?_
  refine rz_newI F (N := 256) rfl (by decide) (Nat.le_of_ble_eq_true rfl) (Nat.le_of_ble_eq_true rfl) hP hD hS d_Exi_36 (fun q5 H hP hD hS => ?_)
  refine W.widen (k := 12) (n := 344) (Nat.le_of_ble_eq_true rfl) (Nat.le_of_ble_eq_true rfl) ?_
  have hP : va_P D ra_cl ([(h0, .inr (7, [.null, .ref q1, .ref q3, .ref q4, .null, .int 0, .int 0, .int 0, .int 0, .int 0, .int 0])), (q1, .inl (kc 2, 8, .inr (.inr (.inr (.inr (fun i => if i < 8 then some (r2 i) else none)))))), ((r2 0), .inl (kc 0, 8, .inl (fun _ => 0))), ((r2 1), .inl (kc 0, 8, .inl (fun _ => 0))), ((r2 2), .inl (kc 0, 8, .inl (fun _ => 0))), ((r2 3), .inl (kc 0, 8, .inl (fun _ => 0))), ((r2 4), .inl (kc 0, 8, .inl (fun _ => 0))), ((r2 5), .inl (kc 0, 8, .inl (fun _ => 0))), ((r2 6), .inl (kc 0, 8, .inl (fun _ => 0))), ((r2 7), .inl (kc 0, 8, .inl (fun _ => 0))), (q3, .inl (kc 0, 8, .inl (fun _ => 0))), (q4, .inl (kc 0, 8, .inl (fun _ => 0))), (q5, .inl (kc 0, 256, .inl (fun _ => 0)))]) H := hP
  have hD : va_D A ([(h0, .inr (7, [.null, .ref q1, .ref q3, .ref q4, .null, .int 0, .int 0, .int 0, .int 0, .int 0, .int 0])), (q1, .inl (kc 2, 8, .inr (.inr (.inr (.inr (fun i => if i < 8 then some (r2 i) else none)))))), ((r2 0), .inl (kc 0, 8, .inl (fun _ => 0))), ((r2 1), .inl (kc 0, 8, .inl (fun _ => 0))), ((r2 2), .inl (kc 0, 8, .inl (fun _ => 0))), ((r2 3), .inl (kc 0, 8, .inl (fun _ => 0))), ((r2 4), .inl (kc 0, 8, .inl (fun _ => 0))), ((r2 5), .inl (kc 0, 8, .inl (fun _ => 0))), ((r2 6), .inl (kc 0, 8, .inl (fun _ => 0))), ((r2 7), .inl (kc 0, 8, .inl (fun _ => 0))), (q3, .inl (kc 0, 8, .inl (fun _ => 0))), (q4, .inl (kc 0, 8, .inl (fun _ => 0))), (q5, .inl (kc 0, 256, .inl (fun _ => 0)))]) := hD
  refine rz_putF F hin cg_Ex 0 rfl 4 (by decide) fl_Ex_23 rfl rfl rfl rfl (Nat.le_of_ble_eq_true rfl) hP hD hS d_Exi_38 (fun H locs hP hD hS => ?_)
  have hP : va_P D ra_cl ([(h0, .inr (7, [.null, .ref q1, .ref q3, .ref q4, .ref q5, .int 0, .int 0, .int 0, .int 0, .int 0, .int 0])), (q1, .inl (kc 2, 8, .inr (.inr (.inr (.inr (fun i => if i < 8 then some (r2 i) else none)))))), ((r2 0), .inl (kc 0, 8, .inl (fun _ => 0))), ((r2 1), .inl (kc 0, 8, .inl (fun _ => 0))), ((r2 2), .inl (kc 0, 8, .inl (fun _ => 0))), ((r2 3), .inl (kc 0, 8, .inl (fun _ => 0))), ((r2 4), .inl (kc 0, 8, .inl (fun _ => 0))), ((r2 5), .inl (kc 0, 8, .inl (fun _ => 0))), ((r2 6), .inl (kc 0, 8, .inl (fun _ => 0))), ((r2 7), .inl (kc 0, 8, .inl (fun _ => 0))), (q3, .inl (kc 0, 8, .inl (fun _ => 0))), (q4, .inl (kc 0, 8, .inl (fun _ => 0))), (q5, .inl (kc 0, 256, .inl (fun _ => 0)))]) H := hP
  have hD : va_D A ([(h0, .inr (7, [.null, .ref q1, .ref q3, .ref q4, .ref q5, .int 0, .int 0, .int 0, .int 0, .int 0, .int 0])), (q1, .inl (kc 2, 8, .inr (.inr (.inr (.inr (fun i => if i < 8 then some (r2 i) else none)))))), ((r2 0), .inl (kc 0, 8, .inl (fun _ => 0))), ((r2 1), .inl (kc 0, 8, .inl (fun _ => 0))), ((r2 2), .inl (kc 0, 8, .inl (fun _ => 0))), ((r2 3), .inl (kc 0, 8, .inl (fun _ => 0))), ((r2 4), .inl (kc 0, 8, .inl (fun _ => 0))), ((r2 5), .inl (kc 0, 8, .inl (fun _ => 0))), ((r2 6), .inl (kc 0, 8, .inl (fun _ => 0))), ((r2 7), .inl (kc 0, 8, .inl (fun _ => 0))), (q3, .inl (kc 0, 8, .inl (fun _ => 0))), (q4, .inl (kc 0, 8, .inl (fun _ => 0))), (q5, .inl (kc 0, 256, .inl (fun _ => 0)))]) := hD
  refine lv_aload_n F.1 F.2.1 d_Exi_41 rfl (lv_at hl 0 rfl) ?_
  refine lv_iconst (v := (-1)) F.1 F.2.1 d_Exi_42 (by decide) ?_
  refine rz_put F cg_Ex 0 rfl 9 (by decide) fl_Ex_26 rfl rfl rfl (Nat.le_of_ble_eq_true rfl) hP hD hS d_Exi_43 (fun H locs hP hD hS => ?_)
  have hP : va_P D ra_cl ([(h0, .inr (7, [.null, .ref q1, .ref q3, .ref q4, .ref q5, .int 0, .int 0, .int 0, .int 0, .int (-1), .int 0])), (q1, .inl (kc 2, 8, .inr (.inr (.inr (.inr (fun i => if i < 8 then some (r2 i) else none)))))), ((r2 0), .inl (kc 0, 8, .inl (fun _ => 0))), ((r2 1), .inl (kc 0, 8, .inl (fun _ => 0))), ((r2 2), .inl (kc 0, 8, .inl (fun _ => 0))), ((r2 3), .inl (kc 0, 8, .inl (fun _ => 0))), ((r2 4), .inl (kc 0, 8, .inl (fun _ => 0))), ((r2 5), .inl (kc 0, 8, .inl (fun _ => 0))), ((r2 6), .inl (kc 0, 8, .inl (fun _ => 0))), ((r2 7), .inl (kc 0, 8, .inl (fun _ => 0))), (q3, .inl (kc 0, 8, .inl (fun _ => 0))), (q4, .inl (kc 0, 8, .inl (fun _ => 0))), (q5, .inl (kc 0, 256, .inl (fun _ => 0)))]) H := hP
  have hD : va_D A ([(h0, .inr (7, [.null, .ref q1, .ref q3, .ref q4, .ref q5, .int 0, .int 0, .int 0, .int 0, .int (-1), .int 0])), (q1, .inl (kc 2, 8, .inr (.inr (.inr (.inr (fun i => if i < 8 then some (r2 i) else none)))))), ((r2 0), .inl (kc 0, 8, .inl (fun _ => 0))), ((r2 1), .inl (kc 0, 8, .inl (fun _ => 0))), ((r2 2), .inl (kc 0, 8, .inl (fun _ => 0))), ((r2 3), .inl (kc 0, 8, .inl (fun _ => 0))), ((r2 4), .inl (kc 0, 8, .inl (fun _ => 0))), ((r2 5), .inl (kc 0, 8, .inl (fun _ => 0))), ((r2 6), .inl (kc 0, 8, .inl (fun _ => 0))), ((r2 7), .inl (kc 0, 8, .inl (fun _ => 0))), (q3, .inl (kc 0, 8, .inl (fun _ => 0))), (q4, .inl (kc 0, 8, .inl (fun _ => 0))), (q5, .inl (kc 0, 256, .inl (fun _ => 0)))]) := hD
  refine lv_aload_n F.1 F.2.1 d_Exi_46 rfl (lv_at hl 0 rfl) ?_
  refine lv_iconst (v := (-1)) F.1 F.2.1 d_Exi_47 (by decide) ?_
  refine rz_put F cg_Ex 0 rfl 10 (by decide) fl_Ex_30 rfl rfl rfl (Nat.le_of_ble_eq_true rfl) hP hD hS d_Exi_48 (fun H locs hP hD hS => ?_)
  have hP : va_P D ra_cl ([(h0, .inr (7, [.null, .ref q1, .ref q3, .ref q4, .ref q5, .int 0, .int 0, .int 0, .int 0, .int (-1), .int (-1)])), (q1, .inl (kc 2, 8, .inr (.inr (.inr (.inr (fun i => if i < 8 then some (r2 i) else none)))))), ((r2 0), .inl (kc 0, 8, .inl (fun _ => 0))), ((r2 1), .inl (kc 0, 8, .inl (fun _ => 0))), ((r2 2), .inl (kc 0, 8, .inl (fun _ => 0))), ((r2 3), .inl (kc 0, 8, .inl (fun _ => 0))), ((r2 4), .inl (kc 0, 8, .inl (fun _ => 0))), ((r2 5), .inl (kc 0, 8, .inl (fun _ => 0))), ((r2 6), .inl (kc 0, 8, .inl (fun _ => 0))), ((r2 7), .inl (kc 0, 8, .inl (fun _ => 0))), (q3, .inl (kc 0, 8, .inl (fun _ => 0))), (q4, .inl (kc 0, 8, .inl (fun _ => 0))), (q5, .inl (kc 0, 256, .inl (fun _ => 0)))]) H := hP
  have hD : va_D A ([(h0, .inr (7, [.null, .ref q1, .ref q3, .ref q4, .ref q5, .int 0, .int 0, .int 0, .int 0, .int (-1), .int (-1)])), (q1, .inl (kc 2, 8, .inr (.inr (.inr (.inr (fun i => if i < 8 then some (r2 i) else none)))))), ((r2 0), .inl (kc 0, 8, .inl (fun _ => 0))), ((r2 1), .inl (kc 0, 8, .inl (fun _ => 0))), ((r2 2), .inl (kc 0, 8, .inl (fun _ => 0))), ((r2 3), .inl (kc 0, 8, .inl (fun _ => 0))), ((r2 4), .inl (kc 0, 8, .inl (fun _ => 0))), ((r2 5), .inl (kc 0, 8, .inl (fun _ => 0))), ((r2 6), .inl (kc 0, 8, .inl (fun _ => 0))), ((r2 7), .inl (kc 0, 8, .inl (fun _ => 0))), (q3, .inl (kc 0, 8, .inl (fun _ => 0))), (q4, .inl (kc 0, 8, .inl (fun _ => 0))), (q5, .inl (kc 0, 256, .inl (fun _ => 0)))]) := hD
  refine lv_aload_n F.1 F.2.1 d_Exi_51 rfl (lv_at hl 0 rfl) ?_
  refine lv_aload_n F.1 F.2.1 d_Exi_52 rfl (lv_at hl 1 rfl) ?_
  refine rz_putF F hin cg_Ex 0 rfl 0 (by decide) fl_Ex_33 rfl rfl rfl rfl (Nat.le_of_ble_eq_true rfl) hP hD hS d_Exi_53 (fun H locs hP hD hS => ?_)
  have hP : va_P D ra_cl ([(h0, .inr (7, [.ref a1, .ref q1, .ref q3, .ref q4, .ref q5, .int 0, .int 0, .int 0, .int 0, .int (-1), .int (-1)])), (q1, .inl (kc 2, 8, .inr (.inr (.inr (.inr (fun i => if i < 8 then some (r2 i) else none)))))), ((r2 0), .inl (kc 0, 8, .inl (fun _ => 0))), ((r2 1), .inl (kc 0, 8, .inl (fun _ => 0))), ((r2 2), .inl (kc 0, 8, .inl (fun _ => 0))), ((r2 3), .inl (kc 0, 8, .inl (fun _ => 0))), ((r2 4), .inl (kc 0, 8, .inl (fun _ => 0))), ((r2 5), .inl (kc 0, 8, .inl (fun _ => 0))), ((r2 6), .inl (kc 0, 8, .inl (fun _ => 0))), ((r2 7), .inl (kc 0, 8, .inl (fun _ => 0))), (q3, .inl (kc 0, 8, .inl (fun _ => 0))), (q4, .inl (kc 0, 8, .inl (fun _ => 0))), (q5, .inl (kc 0, 256, .inl (fun _ => 0)))]) H := hP
  have hD : va_D A ([(h0, .inr (7, [.ref a1, .ref q1, .ref q3, .ref q4, .ref q5, .int 0, .int 0, .int 0, .int 0, .int (-1), .int (-1)])), (q1, .inl (kc 2, 8, .inr (.inr (.inr (.inr (fun i => if i < 8 then some (r2 i) else none)))))), ((r2 0), .inl (kc 0, 8, .inl (fun _ => 0))), ((r2 1), .inl (kc 0, 8, .inl (fun _ => 0))), ((r2 2), .inl (kc 0, 8, .inl (fun _ => 0))), ((r2 3), .inl (kc 0, 8, .inl (fun _ => 0))), ((r2 4), .inl (kc 0, 8, .inl (fun _ => 0))), ((r2 5), .inl (kc 0, 8, .inl (fun _ => 0))), ((r2 6), .inl (kc 0, 8, .inl (fun _ => 0))), ((r2 7), .inl (kc 0, 8, .inl (fun _ => 0))), (q3, .inl (kc 0, 8, .inl (fun _ => 0))), (q4, .inl (kc 0, 8, .inl (fun _ => 0))), (q5, .inl (kc 0, 256, .inl (fun _ => 0)))]) := hD
  have hP8 := hP.sub (ws' := [(h0, .inr (7, [.ref a1, .ref q1, .ref q3, .ref q4, .ref q5, .int 0, .int 0, .int 0, .int 0, .int (-1), .int (-1)])), (q1, .inl (kc 2, 8, .inr (.inr (.inr (.inr (fun i => if i < 8 then some (r2 i) else none)))))), ((r2 0), .inl (kc 0, 8, .inl (fun _ => 0))), ((r2 1), .inl (kc 0, 8, .inl (fun _ => 0))), ((r2 2), .inl (kc 0, 8, .inl (fun _ => 0))), ((r2 3), .inl (kc 0, 8, .inl (fun _ => 0))), ((r2 4), .inl (kc 0, 8, .inl (fun _ => 0))), ((r2 5), .inl (kc 0, 8, .inl (fun _ => 0))), ((r2 6), .inl (kc 0, 8, .inl (fun _ => 0))), ((r2 7), .inl (kc 0, 8, .inl (fun _ => 0))), (q3, .inl (kc 0, 8, .inl (fun _ => 0))), (q4, .inl (kc 0, 8, .inl (fun _ => 0))), (q5, .inl (kc 0, 256, .inl (fun _ => 0)))]) [0, 1, 2, 3, 4, 5, 6, 7, 8, 9, 10, 11, 12] rfl
  have hD8 := hD.sub (ws' := [(h0, .inr (7, [.ref a1, .ref q1, .ref q3, .ref q4, .ref q5, .int 0, .int 0, .int 0, .int 0, .int (-1), .int (-1)])), (q1, .inl (kc 2, 8, .inr (.inr (.inr (.inr (fun i => if i < 8 then some (r2 i) else none)))))), ((r2 0), .inl (kc 0, 8, .inl (fun _ => 0))), ((r2 1), .inl (kc 0, 8, .inl (fun _ => 0))), ((r2 2), .inl (kc 0, 8, .inl (fun _ => 0))), ((r2 3), .inl (kc 0, 8, .inl (fun _ => 0))), ((r2 4), .inl (kc 0, 8, .inl (fun _ => 0))), ((r2 5), .inl (kc 0, 8, .inl (fun _ => 0))), ((r2 6), .inl (kc 0, 8, .inl (fun _ => 0))), ((r2 7), .inl (kc 0, 8, .inl (fun _ => 0))), (q3, .inl (kc 0, 8, .inl (fun _ => 0))), (q4, .inl (kc 0, 8, .inl (fun _ => 0))), (q5, .inl (kc 0, 256, .inl (fun _ => 0)))]) [0, 1, 2, 3, 4, 5, 6, 7, 8, 9, 10, 11, 12] (by decide) rfl
  have e9 : (fun i => if i < 8 then some (r2 i) else none) = (fun i => if i < 8 then some ([q1, r2 0, r2 1, r2 2, r2 3, r2 4, r2 5, r2 6, r2 7, q3, q4, q5].getD (1 + i) 0) else none) := row_e (fun i hi => by rcases (show i = 0 ∨ i = 1 ∨ i = 2 ∨ i = 3 ∨ i = 4 ∨ i = 5 ∨ i = 6 ∨ i = 7 by omega) with rfl | rfl | rfl | rfl | rfl | rfl | rfl | rfl <;> rfl)
  rw [e9] at hP8 hD8
  have hP9 : va_P D ra_cl (w_Exi kc h0 a1 (fun j => [q1, r2 0, r2 1, r2 2, r2 3, r2 4, r2 5, r2 6, r2 7, q3, q4, q5].getD j 0)) H := hP8
  have hD9 : va_D A (w_Exi kc h0 a1 (fun j => [q1, r2 0, r2 1, r2 2, r2 3, r2 4, r2 5, r2 6, r2 7, q3, q4, q5].getD j 0)) := hD8
  exact rz_ret (w := w_Exi kc h0 a1) F hr hlk (fun j => [q1, r2 0, r2 1, r2 2, r2 3, r2 4, r2 5, r2 6, r2 7, q3, q4, q5].getD j 0) hP9 hD9 hS (Nat.le_of_ble_eq_true rfl) (Nat.le_of_ble_eq_true rfl) d_Exi_56
/-! RoofAcross$Knowledge() -/
def rm_Kni : Room := { frames := 1, cells := 15, slots := 628, locals := 64 }
abbrev mi_Kni : ra_MI := (⟨cn_Kn, "<init>", "(LRoofAcross$Village;)V"⟩, prog_5_method_1_code, 2, none, rm_Kni, 2)
set_option maxRecDepth 100000 in
theorem jc_Kni : Cond.code (mi_Kni).1 (mi_Kni).2.1 (mi_Kni).2.2.1 (mi_Kni).2.2.2.1 ∈ ra_WS := ra_in 372 (by decide +kernel) (by decide +kernel)
set_option maxRecDepth 100000 in
theorem ji_Kni : Cond.initialized (mi_Kni).1.cls ∈ ra_WS := ra_in 70 (by decide +kernel) (by decide +kernel)
set_option maxRecDepth 100000 in
theorem jm_Kni : Cond.instanceMethod (mi_Kni).1 ∈ ra_WS := ra_in 371 (by decide +kernel) (by decide +kernel)
set_option maxRecDepth 100000 in
theorem jn_Kni : Cond.instantiable cn_Kn 12 ∈ ra_WS := ra_in 369 (by decide +kernel) (by decide +kernel)
set_option maxRecDepth 100000 in
theorem ml_Kni_3 : Cond.methodLink cn_Kn 3 Lib.objectInit ∈ ra_WS := ra_in 373 (by decide +kernel) (by decide +kernel)
set_option maxRecDepth 100000 in
theorem cl_Kni_30 : Cond.classLink cn_Kn 30 "[[I" ∈ ra_WS := ra_in 374 (by decide +kernel) (by decide +kernel)
theorem d_Kni_0 : decode prog_5_method_1_code 0 = .ok (.aload_n 0, 1) := by decide +kernel
theorem d_Kni_1 : decode prog_5_method_1_code 1 = .ok (.invokespecial 3, 3) := by decide +kernel
theorem d_Kni_4 : decode prog_5_method_1_code 4 = .ok (.aload_n 0, 1) := by decide +kernel
theorem d_Kni_5 : decode prog_5_method_1_code 5 = .ok (.bipush 12, 2) := by decide +kernel
theorem d_Kni_7 : decode prog_5_method_1_code 7 = .ok (.newarray .int, 2) := by decide +kernel
theorem d_Kni_9 : decode prog_5_method_1_code 9 = .ok (.putfield 9, 3) := by decide +kernel
theorem d_Kni_12 : decode prog_5_method_1_code 12 = .ok (.aload_n 0, 1) := by decide +kernel
theorem d_Kni_13 : decode prog_5_method_1_code 13 = .ok (.bipush 12, 2) := by decide +kernel
theorem d_Kni_15 : decode prog_5_method_1_code 15 = .ok (.newarray .int, 2) := by decide +kernel
theorem d_Kni_17 : decode prog_5_method_1_code 17 = .ok (.putfield 15, 3) := by decide +kernel
theorem d_Kni_20 : decode prog_5_method_1_code 20 = .ok (.aload_n 0, 1) := by decide +kernel
theorem d_Kni_21 : decode prog_5_method_1_code 21 = .ok (.bipush 12, 2) := by decide +kernel
theorem d_Kni_23 : decode prog_5_method_1_code 23 = .ok (.newarray .int, 2) := by decide +kernel
theorem d_Kni_25 : decode prog_5_method_1_code 25 = .ok (.putfield 18, 3) := by decide +kernel
theorem d_Kni_28 : decode prog_5_method_1_code 28 = .ok (.aload_n 0, 1) := by decide +kernel
theorem d_Kni_29 : decode prog_5_method_1_code 29 = .ok (.bipush 8, 2) := by decide +kernel
theorem d_Kni_31 : decode prog_5_method_1_code 31 = .ok (.newarray .int, 2) := by decide +kernel
theorem d_Kni_33 : decode prog_5_method_1_code 33 = .ok (.putfield 21, 3) := by decide +kernel
theorem d_Kni_36 : decode prog_5_method_1_code 36 = .ok (.aload_n 0, 1) := by decide +kernel
theorem d_Kni_37 : decode prog_5_method_1_code 37 = .ok (.sipush 256, 3) := by decide +kernel
theorem d_Kni_40 : decode prog_5_method_1_code 40 = .ok (.newarray .int, 2) := by decide +kernel
theorem d_Kni_42 : decode prog_5_method_1_code 42 = .ok (.putfield 24, 3) := by decide +kernel
theorem d_Kni_45 : decode prog_5_method_1_code 45 = .ok (.aload_n 0, 1) := by decide +kernel
theorem d_Kni_46 : decode prog_5_method_1_code 46 = .ok (.sipush 256, 3) := by decide +kernel
theorem d_Kni_49 : decode prog_5_method_1_code 49 = .ok (.newarray .int, 2) := by decide +kernel
theorem d_Kni_51 : decode prog_5_method_1_code 51 = .ok (.putfield 27, 3) := by decide +kernel
theorem d_Kni_54 : decode prog_5_method_1_code 54 = .ok (.aload_n 0, 1) := by decide +kernel
theorem d_Kni_55 : decode prog_5_method_1_code 55 = .ok (.bipush 8, 2) := by decide +kernel
theorem d_Kni_57 : decode prog_5_method_1_code 57 = .ok (.bipush 8, 2) := by decide +kernel
theorem d_Kni_59 : decode prog_5_method_1_code 59 = .ok (.multianewarray 30 2, 4) := by decide +kernel
theorem d_Kni_63 : decode prog_5_method_1_code 63 = .ok (.putfield 32, 3) := by decide +kernel
theorem d_Kni_66 : decode prog_5_method_1_code 66 = .ok (.aload_n 0, 1) := by decide +kernel
theorem d_Kni_67 : decode prog_5_method_1_code 67 = .ok (.iconst (-1), 1) := by decide +kernel
theorem d_Kni_68 : decode prog_5_method_1_code 68 = .ok (.putfield 35, 3) := by decide +kernel
theorem d_Kni_71 : decode prog_5_method_1_code 71 = .ok (.aload_n 0, 1) := by decide +kernel
theorem d_Kni_72 : decode prog_5_method_1_code 72 = .ok (.aload_n 1, 1) := by decide +kernel
theorem d_Kni_73 : decode prog_5_method_1_code 73 = .ok (.putfield 39, 3) := by decide +kernel
theorem d_Kni_76 : decode prog_5_method_1_code 76 = .ok (.return_, 1) := by decide +kernel
def w_Kni (kc : Nat → ClassId) (h0 : Nat) (a1 : Nat) (q : Nat → Nat) : va_W := [(h0, .inr (8, [.ref a1, .ref (q 0), .ref (q 1), .ref (q 2), .ref (q 3), .ref (q 4), .ref (q 5), .ref (q 6), .int 0, .int 0, .int 0, .int (-1)])), ((q 0), .inl (kc 0, 12, .inl (fun _ => 0))), ((q 1), .inl (kc 0, 12, .inl (fun _ => 0))), ((q 2), .inl (kc 0, 12, .inl (fun _ => 0))), ((q 3), .inl (kc 0, 8, .inl (fun _ => 0))), ((q 4), .inl (kc 0, 256, .inl (fun _ => 0))), ((q 5), .inl (kc 0, 256, .inl (fun _ => 0))), ((q 6), .inl (kc 2, 8, .inr (.inr (.inr (.inr (fun i => if i < 8 then some (q (7 + i)) else none)))))), ((q 7), .inl (kc 0, 8, .inl (fun _ => 0))), ((q 8), .inl (kc 0, 8, .inl (fun _ => 0))), ((q 9), .inl (kc 0, 8, .inl (fun _ => 0))), ((q 10), .inl (kc 0, 8, .inl (fun _ => 0))), ((q 11), .inl (kc 0, 8, .inl (fun _ => 0))), ((q 12), .inl (kc 0, 8, .inl (fun _ => 0))), ((q 13), .inl (kc 0, 8, .inl (fun _ => 0))), ((q 14), .inl (kc 0, 8, .inl (fun _ => 0)))]
set_option maxHeartbeats 4000000 in
set_option maxRecDepth 100000 in
theorem c_Kni {l : Launch} {D : va_G} (kc : Nat → ClassId) (h0 : Nat) (a1 : Nat) : rz_M l D kc mi_Kni h0 8 [.null, .null, .null, .null, .null, .null, .null, .null, .int 0, .int 0, .int 0, .int 0] [.ref a1] (w_Kni kc h0 a1) := by
  refine rz_enter cn_Kn rfl rfl rfl (by decide +kernel) (Nat.le_of_ble_eq_true rfl) ?_
  intro p e s m below meth c ls A F hin hr hlk hP hD hl
  have hl : lv_has ls 2 [(0, .ref h0), (1, .ref a1)] := hl
  have hS : va_S A s.heap s.heap [] := va_S.rf
  refine lv_aload_n F.1 F.2.1 d_Kni_0 rfl (lv_at hl 0 rfl) ?_
  refine rz_obj F ml_Kni_3 hl (by decide) (Nat.le_of_ble_eq_true rfl) d_Kni_1 ?_
  refine lv_aload_n F.1 F.2.1 d_Kni_4 rfl (lv_at hl 0 rfl) ?_
  refine lv_bipush (v := 12) F.1 F.2.1 d_Kni_5 (by decide) ?_
  refine rz_newI F (N := 12) rfl (by decide) (Nat.le_of_ble_eq_true rfl) (Nat.le_of_ble_eq_true rfl) hP hD hS d_Kni_7 (fun q1 H hP hD hS => ?_)
  refine W.widen (k := 1) (n := 12) (Nat.le_of_ble_eq_true rfl) (Nat.le_of_ble_eq_true rfl) ?_
  have hP : va_P D ra_cl ([(h0, .inr (8, [.null, .null, .null, .null, .null, .null, .null, .null, .int 0, .int 0, .int 0, .int 0])), (q1, .inl (kc 0, 12, .inl (fun _ => 0)))]) H := hP
  have hD : va_D A ([(h0, .inr (8, [.null, .null, .null, .null, .null, .null, .null, .null, .int 0, .int 0, .int 0, .int 0])), (q1, .inl (kc 0, 12, .inl (fun _ => 0)))]) := hD
  refine rz_putF F hin cg_Kn 0 rfl 1 (by decide) fl_Kn_9 rfl rfl rfl rfl (Nat.le_of_ble_eq_true rfl) hP hD hS d_Kni_9 (fun H locs hP hD hS => ?_)
  have hP : va_P D ra_cl ([(h0, .inr (8, [.null, .ref q1, .null, .null, .null, .null, .null, .null, .int 0, .int 0, .int 0, .int 0])), (q1, .inl (kc 0, 12, .inl (fun _ => 0)))]) H := hP
  have hD : va_D A ([(h0, .inr (8, [.null, .ref q1, .null, .null, .null, .null, .null, .null, .int 0, .int 0, .int 0, .int 0])), (q1, .inl (kc 0, 12, .inl (fun _ => 0)))]) := hD
  refine lv_aload_n F.1 F.2.1 d_Kni_12 rfl (lv_at hl 0 rfl) ?_
  refine lv_bipush (v := 12) F.1 F.2.1 d_Kni_13 (by decide) ?_
  refine rz_newI F (N := 12) rfl (by decide) (Nat.le_of_ble_eq_true rfl) (Nat.le_of_ble_eq_true rfl) hP hD hS d_Kni_15 (fun q2 H hP hD hS => ?_)
  refine W.widen (k := 2) (n := 24) (Nat.le_of_ble_eq_true rfl) (Nat.le_of_ble_eq_true rfl) ?_
  have hP : va_P D ra_cl ([(h0, .inr (8, [.null, .ref q1, .null, .null, .null, .null, .null, .null, .int 0, .int 0, .int 0, .int 0])), (q1, .inl (kc 0, 12, .inl (fun _ => 0))), (q2, .inl (kc 0, 12, .inl (fun _ => 0)))]) H := hP
  have hD : va_D A ([(h0, .inr (8, [.null, .ref q1, .null, .null, .null, .null, .null, .null, .int 0, .int 0, .int 0, .int 0])), (q1, .inl (kc 0, 12, .inl (fun _ => 0))), (q2, .inl (kc 0, 12, .inl (fun _ => 0)))]) := hD
  refine rz_putF F hin cg_Kn 0 rfl 2 (by decide) fl_Kn_15 rfl rfl rfl rfl (Nat.le_of_ble_eq_true rfl) hP hD hS d_Kni_17 (fun H locs hP hD hS => ?_)
  have hP : va_P D ra_cl ([(h0, .inr (8, [.null, .ref q1, .ref q2, .null, .null, .null, .null, .null, .int 0, .int 0, .int 0, .int 0])), (q1, .inl (kc 0, 12, .inl (fun _ => 0))), (q2, .inl (kc 0, 12, .inl (fun _ => 0)))]) H := hP
  have hD : va_D A ([(h0, .inr (8, [.null, .ref q1, .ref q2, .null, .null, .null, .null, .null, .int 0, .int 0, .int 0, .int 0])), (q1, .inl (kc 0, 12, .inl (fun _ => 0))), (q2, .inl (kc 0, 12, .inl (fun _ => 0)))]) := hD
  refine lv_aload_n F.1 F.2.1 d_Kni_20 rfl (lv_at hl 0 rfl) ?_
  refine lv_bipush (v := 12) F.1 F.2.1 d_Kni_21 (by decide) ?_
  refine rz_newI F (N := 12) rfl (by decide) (Nat.le_of_ble_eq_true rfl) (Nat.le_of_ble_eq_true rfl) hP hD hS d_Kni_23 (fun q3 H hP hD hS => ?_)
  refine W.widen (k := 3) (n := 36) (Nat.le_of_ble_eq_true rfl) (Nat.le_of_ble_eq_true rfl) ?_
  have hP : va_P D ra_cl ([(h0, .inr (8, [.null, .ref q1, .ref q2, .null, .null, .null, .null, .null, .int 0, .int 0, .int 0, .int 0])), (q1, .inl (kc 0, 12, .inl (fun _ => 0))), (q2, .inl (kc 0, 12, .inl (fun _ => 0))), (q3, .inl (kc 0, 12, .inl (fun _ => 0)))]) H := hP
  have hD : va_D A ([(h0, .inr (8, [.null, .ref q1, .ref q2, .null, .null, .null, .null, .null, .int 0, .int 0, .int 0, .int 0])), (q1, .inl (kc 0, 12, .inl (fun _ => 0))), (q2, .inl (kc 0, 12, .inl (fun _ => 0))), (q3, .inl (kc 0, 12, .inl (fun _ => 0)))]) := hD
  refine rz_putF F hin cg_Kn 0 rfl 3 (by decide) fl_Kn_18 rfl rfl rfl rfl (Nat.le_of_ble_eq_true rfl) hP hD hS d_Kni_25 (fun H locs hP hD hS => ?_)
  have hP : va_P D ra_cl ([(h0, .inr (8, [.null, .ref q1, .ref q2, .ref q3, .null, .null, .null, .null, .int 0, .int 0, .int 0, .int 0])), (q1, .inl (kc 0, 12, .inl (fun _ => 0))), (q2, .inl (kc 0, 12, .inl (fun _ => 0))), (q3, .inl (kc 0, 12, .inl (fun _ => 0)))]) H := hP
  have hD : va_D A ([(h0, .inr (8, [.null, .ref q1, .ref q2, .ref q3, .null, .null, .null, .null, .int 0, .int 0, .int 0, .int 0])), (q1, .inl (kc 0, 12, .inl (fun _ => 0))), (q2, .inl (kc 0, 12, .inl (fun _ => 0))), (q3, .inl (kc 0, 12, .inl (fun _ => 0)))]) := hD
  refine lv_aload_n F.1 F.2.1 d_Kni_28 rfl (lv_at hl 0 rfl) ?_
  refine lv_bipush (v := 8) F.1 F.2.1 d_Kni_29 (by decide) ?_
  refine rz_newI F (N := 8) rfl (by decide) (Nat.le_of_ble_eq_true rfl) (Nat.le_of_ble_eq_true rfl) hP hD hS d_Kni_31 (fun q4 H hP hD hS => ?_)
  refine W.widen (k := 4) (n := 44) (Nat.le_of_ble_eq_true rfl) (Nat.le_of_ble_eq_true rfl) ?_
  have hP : va_P D ra_cl ([(h0, .inr (8, [.null, .ref q1, .ref q2, .ref q3, .null, .null, .null, .null, .int 0, .int 0, .int 0, .int 0])), (q1, .inl (kc 0, 12, .inl (fun _ => 0))), (q2, .inl (kc 0, 12, .inl (fun _ => 0))), (q3, .inl (kc 0, 12, .inl (fun _ => 0))), (q4, .inl (kc 0, 8, .inl (fun _ => 0)))]) H := hP
  have hD : va_D A ([(h0, .inr (8, [.null, .ref q1, .ref q2, .ref q3, .null, .null, .null, .null, .int 0, .int 0, .int 0, .int 0])), (q1, .inl (kc 0, 12, .inl (fun _ => 0))), (q2, .inl (kc 0, 12, .inl (fun _ => 0))), (q3, .inl (kc 0, 12, .inl (fun _ => 0))), (q4, .inl (kc 0, 8, .inl (fun _ => 0)))]) := hD
  refine rz_putF F hin cg_Kn 0 rfl 4 (by decide) fl_Kn_21 rfl rfl rfl rfl (Nat.le_of_ble_eq_true rfl) hP hD hS d_Kni_33 (fun H locs hP hD hS => ?_)
  have hP : va_P D ra_cl ([(h0, .inr (8, [.null, .ref q1, .ref q2, .ref q3, .ref q4, .null, .null, .null, .int 0, .int 0, .int 0, .int 0])), (q1, .inl (kc 0, 12, .inl (fun _ => 0))), (q2, .inl (kc 0, 12, .inl (fun _ => 0))), (q3, .inl (kc 0, 12, .inl (fun _ => 0))), (q4, .inl (kc 0, 8, .inl (fun _ => 0)))]) H := hP
  have hD : va_D A ([(h0, .inr (8, [.null, .ref q1, .ref q2, .ref q3, .ref q4, .null, .null, .null, .int 0, .int 0, .int 0, .int 0])), (q1, .inl (kc 0, 12, .inl (fun _ => 0))), (q2, .inl (kc 0, 12, .inl (fun _ => 0))), (q3, .inl (kc 0, 12, .inl (fun _ => 0))), (q4, .inl (kc 0, 8, .inl (fun _ => 0)))]) := hD
  refine lv_aload_n F.1 F.2.1 d_Kni_36 rfl (lv_at hl 0 rfl) ?_
  refine lv_sipush (v := 256) F.1 F.2.1 d_Kni_37 (by decide) ?_
  refine rz_newI F (N := 256) rfl (by decide) (Nat.le_of_ble_eq_true rfl) (Nat.le_of_ble_eq_true rfl) hP hD hS d_Kni_40 (fun q5 H hP hD hS => ?_)
  refine W.widen (k := 5) (n := 300) (Nat.le_of_ble_eq_true rfl) (Nat.le_of_ble_eq_true rfl) ?_
  have hP : va_P D ra_cl ([(h0, .inr (8, [.null, .ref q1, .ref q2, .ref q3, .ref q4, .null, .null, .null, .int 0, .int 0, .int 0, .int 0])), (q1, .inl (kc 0, 12, .inl (fun _ => 0))), (q2, .inl (kc 0, 12, .inl (fun _ => 0))), (q3, .inl (kc 0, 12, .inl (fun _ => 0))), (q4, .inl (kc 0, 8, .inl (fun _ => 0))), (q5, .inl (kc 0, 256, .inl (fun _ => 0)))]) H := hP
  have hD : va_D A ([(h0, .inr (8, [.null, .ref q1, .ref q2, .ref q3, .ref q4, .null, .null, .null, .int 0, .int 0, .int 0, .int 0])), (q1, .inl (kc 0, 12, .inl (fun _ => 0))), (q2, .inl (kc 0, 12, .inl (fun _ => 0))), (q3, .inl (kc 0, 12, .inl (fun _ => 0))), (q4, .inl (kc 0, 8, .inl (fun _ => 0))), (q5, .inl (kc 0, 256, .inl (fun _ => 0)))]) := hD
  refine rz_putF F hin cg_Kn 0 rfl 5 (by decide) fl_Kn_24 rfl rfl rfl rfl (Nat.le_of_ble_eq_true rfl) hP hD hS d_Kni_42 (fun H locs hP hD hS => ?_)
  have hP : va_P D ra_cl ([(h0, .inr (8, [.null, .ref q1, .ref q2, .ref q3, .ref q4, .ref q5, .null, .null, .int 0, .int 0, .int 0, .int 0])), (q1, .inl (kc 0, 12, .inl (fun _ => 0))), (q2, .inl (kc 0, 12, .inl (fun _ => 0))), (q3, .inl (kc 0, 12, .inl (fun _ => 0))), (q4, .inl (kc 0, 8, .inl (fun _ => 0))), (q5, .inl (kc 0, 256, .inl (fun _ => 0)))]) H := hP
  have hD : va_D A ([(h0, .inr (8, [.null, .ref q1, .ref q2, .ref q3, .ref q4, .ref q5, .null, .null, .int 0, .int 0, .int 0, .int 0])), (q1, .inl (kc 0, 12, .inl (fun _ => 0))), (q2, .inl (kc 0, 12, .inl (fun _ => 0))), (q3, .inl (kc 0, 12, .inl (fun _ => 0))), (q4, .inl (kc 0, 8, .inl (fun _ => 0))), (q5, .inl (kc 0, 256, .inl (fun _ => 0)))]) := hD
  refine lv_aload_n F.1 F.2.1 d_Kni_45 rfl (lv_at hl 0 rfl) ?_
  refine lv_sipush (v := 256) F.1 F.2.1 d_Kni_46 (by decide) ?_
  refine rz_newI F (N := 256) rfl (by decide) (Nat.le_of_ble_eq_true rfl) (Nat.le_of_ble_eq_true rfl) hP hD hS d_Kni_49 (fun q6 H hP hD hS => ?_)
  refine W.widen (k := 6) (n := 556) (Nat.le_of_ble_eq_true rfl) (Nat.le_of_ble_eq_true rfl) ?_
  have hP : va_P D ra_cl ([(h0, .inr (8, [.null, .ref q1, .ref q2, .ref q3, .ref q4, .ref q5, .null, .null, .int 0, .int 0, .int 0, .int 0])), (q1, .inl (kc 0, 12, .inl (fun _ => 0))), (q2, .inl (kc 0, 12, .inl (fun _ => 0))), (q3, .inl (kc 0, 12, .inl (fun _ => 0))), (q4, .inl (kc 0, 8, .inl (fun _ => 0))), (q5, .inl (kc 0, 256, .inl (fun _ => 0))), (q6, .inl (kc 0, 256, .inl (fun _ => 0)))]) H := hP
  have hD : va_D A ([(h0, .inr (8, [.null, .ref q1, .ref q2, .ref q3, .ref q4, .ref q5, .null, .null, .int 0, .int 0, .int 0, .int 0])), (q1, .inl (kc 0, 12, .inl (fun _ => 0))), (q2, .inl (kc 0, 12, .inl (fun _ => 0))), (q3, .inl (kc 0, 12, .inl (fun _ => 0))), (q4, .inl (kc 0, 8, .inl (fun _ => 0))), (q5, .inl (kc 0, 256, .inl (fun _ => 0))), (q6, .inl (kc 0, 256, .inl (fun _ => 0)))]) := hD
  refine rz_putF F hin cg_Kn 0 rfl 6 (by decide) fl_Kn_27 rfl rfl rfl rfl (Nat.le_of_ble_eq_true rfl) hP hD hS d_Kni_51 (fun H locs hP hD hS => ?_)
  have hP : va_P D ra_cl ([(h0, .inr (8, [.null, .ref q1, .ref q2, .ref q3, .ref q4, .ref q5, .ref q6, .null, .int 0, .int 0, .int 0, .int 0])), (q1, .inl (kc 0, 12, .inl (fun _ => 0))), (q2, .inl (kc 0, 12, .inl (fun _ => 0))), (q3, .inl (kc 0, 12, .inl (fun _ => 0))), (q4, .inl (kc 0, 8, .inl (fun _ => 0))), (q5, .inl (kc 0, 256, .inl (fun _ => 0))), (q6, .inl (kc 0, 256, .inl (fun _ => 0)))]) H := hP
  have hD : va_D A ([(h0, .inr (8, [.null, .ref q1, .ref q2, .ref q3, .ref q4, .ref q5, .ref q6, .null, .int 0, .int 0, .int 0, .int 0])), (q1, .inl (kc 0, 12, .inl (fun _ => 0))), (q2, .inl (kc 0, 12, .inl (fun _ => 0))), (q3, .inl (kc 0, 12, .inl (fun _ => 0))), (q4, .inl (kc 0, 8, .inl (fun _ => 0))), (q5, .inl (kc 0, 256, .inl (fun _ => 0))), (q6, .inl (kc 0, 256, .inl (fun _ => 0)))]) := hD
  refine lv_aload_n F.1 F.2.1 d_Kni_54 rfl (lv_at hl 0 rfl) ?_
  refine lv_bipush (v := 8) F.1 F.2.1 d_Kni_55 (by decide) ?_
  refine lv_bipush (v := 8) F.1 F.2.1 d_Kni_57 (by decide) ?_
  refine rz_mna F (N := 8) (K := 8) rfl rfl (by decide) (by decide) cl_Kni_30 (Nat.le_of_ble_eq_true rfl) (Nat.le_of_ble_eq_true rfl) hP hD hS d_Kni_59 (fun q7 r8 H hP hD hS => ?_)
  refine W.widen (k := 15) (n := 628) (Nat.le_of_ble_eq_true rfl) (Nat.le_of_ble_eq_true rfl) ?_
  have hP : va_P D ra_cl ([(h0, .inr (8, [.null, .ref q1, .ref q2, .ref q3, .ref q4, .ref q5, .ref q6, .null, .int 0, .int 0, .int 0, .int 0])), (q1, .inl (kc 0, 12, .inl (fun _ => 0))), (q2, .inl (kc 0, 12, .inl (fun _ => 0))), (q3, .inl (kc 0, 12, .inl (fun _ => 0))), (q4, .inl (kc 0, 8, .inl (fun _ => 0))), (q5, .inl (kc 0, 256, .inl (fun _ => 0))), (q6, .inl (kc 0, 256, .inl (fun _ => 0))), (q7, .inl (kc 2, 8, .inr (.inr (.inr (.inr (fun i => if i < 8 then some (r8 i) else none)))))), ((r8 0), .inl (kc 0, 8, .inl (fun _ => 0))), ((r8 1), .inl (kc 0, 8, .inl (fun _ => 0))), ((r8 2), .inl (kc 0, 8, .inl (fun _ => 0))), ((r8 3), .inl (kc 0, 8, .inl (fun _ => 0))), ((r8 4), .inl (kc 0, 8, .inl (fun _ => 0))), ((r8 5), .inl (kc 0, 8, .inl (fun _ => 0))), ((r8 6), .inl (kc 0, 8, .inl (fun _ => 0))), ((r8 7), .inl (kc 0, 8, .inl (fun _ => 0)))]) H := hP
  have hD : va_D A ([(h0, .inr (8, [.null, .ref q1, .ref q2, .ref q3, .ref q4, .ref q5, .ref q6, .null, .int 0, .int 0, .int 0, .int 0])), (q1, .inl (kc 0, 12, .inl (fun _ => 0))), (q2, .inl (kc 0, 12, .inl (fun _ => 0))), (q3, .inl (kc 0, 12, .inl (fun _ => 0))), (q4, .inl (kc 0, 8, .inl (fun _ => 0))), (q5, .inl (kc 0, 256, .inl (fun _ => 0))), (q6, .inl (kc 0, 256, .inl (fun _ => 0))), (q7, .inl (kc 2, 8, .inr (.inr (.inr (.inr (fun i => if i < 8 then some (r8 i) else none)))))), ((r8 0), .inl (kc 0, 8, .inl (fun _ => 0))), ((r8 1), .inl (kc 0, 8, .inl (fun _ => 0))), ((r8 2), .inl (kc 0, 8, .inl (fun _ => 0))), ((r8 3), .inl (kc 0, 8, .inl (fun _ => 0))), ((r8 4), .inl (kc 0, 8, .inl (fun _ => 0))), ((r8 5), .inl (kc 0, 8, .inl (fun _ => 0))), ((r8 6), .inl (kc 0, 8, .inl (fun _ => 0))), ((r8 7), .inl (kc 0, 8, .inl (fun _ => 0)))]) := hD
  refine rz_putF F hin cg_Kn 0 rfl 7 (by decide) fl_Kn_32 rfl rfl rfl rfl (Nat.le_of_ble_eq_true rfl) hP hD hS d_Kni_63 (fun H locs hP hD hS => ?_)
  have hP : va_P D ra_cl ([(h0, .inr (8, [.null, .ref q1, .ref q2, .ref q3, .ref q4, .ref q5, .ref q6, .ref q7, .int 0, .int 0, .int 0, .int 0])), (q1, .inl (kc 0, 12, .inl (fun _ => 0))), (q2, .inl (kc 0, 12, .inl (fun _ => 0))), (q3, .inl (kc 0, 12, .inl (fun _ => 0))), (q4, .inl (kc 0, 8, .inl (fun _ => 0))), (q5, .inl (kc 0, 256, .inl (fun _ => 0))), (q6, .inl (kc 0, 256, .inl (fun _ => 0))), (q7, .inl (kc 2, 8, .inr (.inr (.inr (.inr (fun i => if i < 8 then some (r8 i) else none)))))), ((r8 0), .inl (kc 0, 8, .inl (fun _ => 0))), ((r8 1), .inl (kc 0, 8, .inl (fun _ => 0))), ((r8 2), .inl (kc 0, 8, .inl (fun _ => 0))), ((r8 3), .inl (kc 0, 8, .inl (fun _ => 0))), ((r8 4), .inl (kc 0, 8, .inl (fun _ => 0))), ((r8 5), .inl (kc 0, 8, .inl (fun _ => 0))), ((r8 6), .inl (kc 0, 8, .inl (fun _ => 0))), ((r8 7), .inl (kc 0, 8, .inl (fun _ => 0)))]) H := hP
  have hD : va_D A ([(h0, .inr (8, [.null, .ref q1, .ref q2, .ref q3, .ref q4, .ref q5, .ref q6, .ref q7, .int 0, .int 0, .int 0, .int 0])), (q1, .inl (kc 0, 12, .inl (fun _ => 0))), (q2, .inl (kc 0, 12, .inl (fun _ => 0))), (q3, .inl (kc 0, 12, .inl (fun _ => 0))), (q4, .inl (kc 0, 8, .inl (fun _ => 0))), (q5, .inl (kc 0, 256, .inl (fun _ => 0))), (q6, .inl (kc 0, 256, .inl (fun _ => 0))), (q7, .inl (kc 2, 8, .inr (.inr (.inr (.inr (fun i => if i < 8 then some (r8 i) else none)))))), ((r8 0), .inl (kc 0, 8, .inl (fun _ => 0))), ((r8 1), .inl (kc 0, 8, .inl (fun _ => 0))), ((r8 2), .inl (kc 0, 8, .inl (fun _ => 0))), ((r8 3), .inl (kc 0, 8, .inl (fun _ => 0))), ((r8 4), .inl (kc 0, 8, .inl (fun _ => 0))), ((r8 5), .inl (kc 0, 8, .inl (fun _ => 0))), ((r8 6), .inl (kc 0, 8, .inl (fun _ => 0))), ((r8 7), .inl (kc 0, 8, .inl (fun _ => 0)))]) := hD
  refine lv_aload_n F.1 F.2.1 d_Kni_66 rfl (lv_at hl 0 rfl) ?_
  refine lv_iconst (v := (-1)) F.1 F.2.1 d_Kni_67 (by decide) ?_
  refine rz_put F cg_Kn 0 rfl 11 (by decide) fl_Kn_35 rfl rfl rfl (Nat.le_of_ble_eq_true rfl) hP hD hS d_Kni_68 (fun H locs hP hD hS => ?_)
  have hP : va_P D ra_cl ([(h0, .inr (8, [.null, .ref q1, .ref q2, .ref q3, .ref q4, .ref q5, .ref q6, .ref q7, .int 0, .int 0, .int 0, .int (-1)])), (q1, .inl (kc 0, 12, .inl (fun _ => 0))), (q2, .inl (kc 0, 12, .inl (fun _ => 0))), (q3, .inl (kc 0, 12, .inl (fun _ => 0))), (q4, .inl (kc 0, 8, .inl (fun _ => 0))), (q5, .inl (kc 0, 256, .inl (fun _ => 0))), (q6, .inl (kc 0, 256, .inl (fun _ => 0))), (q7, .inl (kc 2, 8, .inr (.inr (.inr (.inr (fun i => if i < 8 then some (r8 i) else none)))))), ((r8 0), .inl (kc 0, 8, .inl (fun _ => 0))), ((r8 1), .inl (kc 0, 8, .inl (fun _ => 0))), ((r8 2), .inl (kc 0, 8, .inl (fun _ => 0))), ((r8 3), .inl (kc 0, 8, .inl (fun _ => 0))), ((r8 4), .inl (kc 0, 8, .inl (fun _ => 0))), ((r8 5), .inl (kc 0, 8, .inl (fun _ => 0))), ((r8 6), .inl (kc 0, 8, .inl (fun _ => 0))), ((r8 7), .inl (kc 0, 8, .inl (fun _ => 0)))]) H := hP
  have hD : va_D A ([(h0, .inr (8, [.null, .ref q1, .ref q2, .ref q3, .ref q4, .ref q5, .ref q6, .ref q7, .int 0, .int 0, .int 0, .int (-1)])), (q1, .inl (kc 0, 12, .inl (fun _ => 0))), (q2, .inl (kc 0, 12, .inl (fun _ => 0))), (q3, .inl (kc 0, 12, .inl (fun _ => 0))), (q4, .inl (kc 0, 8, .inl (fun _ => 0))), (q5, .inl (kc 0, 256, .inl (fun _ => 0))), (q6, .inl (kc 0, 256, .inl (fun _ => 0))), (q7, .inl (kc 2, 8, .inr (.inr (.inr (.inr (fun i => if i < 8 then some (r8 i) else none)))))), ((r8 0), .inl (kc 0, 8, .inl (fun _ => 0))), ((r8 1), .inl (kc 0, 8, .inl (fun _ => 0))), ((r8 2), .inl (kc 0, 8, .inl (fun _ => 0))), ((r8 3), .inl (kc 0, 8, .inl (fun _ => 0))), ((r8 4), .inl (kc 0, 8, .inl (fun _ => 0))), ((r8 5), .inl (kc 0, 8, .inl (fun _ => 0))), ((r8 6), .inl (kc 0, 8, .inl (fun _ => 0))), ((r8 7), .inl (kc 0, 8, .inl (fun _ => 0)))]) := hD
  refine lv_aload_n F.1 F.2.1 d_Kni_71 rfl (lv_at hl 0 rfl) ?_
  refine lv_aload_n F.1 F.2.1 d_Kni_72 rfl (lv_at hl 1 rfl) ?_
  refine rz_putF F hin cg_Kn 0 rfl 0 (by decide) fl_Kn_39 rfl rfl rfl rfl (Nat.le_of_ble_eq_true rfl) hP hD hS d_Kni_73 (fun H locs hP hD hS => ?_)
  have hP : va_P D ra_cl ([(h0, .inr (8, [.ref a1, .ref q1, .ref q2, .ref q3, .ref q4, .ref q5, .ref q6, .ref q7, .int 0, .int 0, .int 0, .int (-1)])), (q1, .inl (kc 0, 12, .inl (fun _ => 0))), (q2, .inl (kc 0, 12, .inl (fun _ => 0))), (q3, .inl (kc 0, 12, .inl (fun _ => 0))), (q4, .inl (kc 0, 8, .inl (fun _ => 0))), (q5, .inl (kc 0, 256, .inl (fun _ => 0))), (q6, .inl (kc 0, 256, .inl (fun _ => 0))), (q7, .inl (kc 2, 8, .inr (.inr (.inr (.inr (fun i => if i < 8 then some (r8 i) else none)))))), ((r8 0), .inl (kc 0, 8, .inl (fun _ => 0))), ((r8 1), .inl (kc 0, 8, .inl (fun _ => 0))), ((r8 2), .inl (kc 0, 8, .inl (fun _ => 0))), ((r8 3), .inl (kc 0, 8, .inl (fun _ => 0))), ((r8 4), .inl (kc 0, 8, .inl (fun _ => 0))), ((r8 5), .inl (kc 0, 8, .inl (fun _ => 0))), ((r8 6), .inl (kc 0, 8, .inl (fun _ => 0))), ((r8 7), .inl (kc 0, 8, .inl (fun _ => 0)))]) H := hP
  have hD : va_D A ([(h0, .inr (8, [.ref a1, .ref q1, .ref q2, .ref q3, .ref q4, .ref q5, .ref q6, .ref q7, .int 0, .int 0, .int 0, .int (-1)])), (q1, .inl (kc 0, 12, .inl (fun _ => 0))), (q2, .inl (kc 0, 12, .inl (fun _ => 0))), (q3, .inl (kc 0, 12, .inl (fun _ => 0))), (q4, .inl (kc 0, 8, .inl (fun _ => 0))), (q5, .inl (kc 0, 256, .inl (fun _ => 0))), (q6, .inl (kc 0, 256, .inl (fun _ => 0))), (q7, .inl (kc 2, 8, .inr (.inr (.inr (.inr (fun i => if i < 8 then some (r8 i) else none)))))), ((r8 0), .inl (kc 0, 8, .inl (fun _ => 0))), ((r8 1), .inl (kc 0, 8, .inl (fun _ => 0))), ((r8 2), .inl (kc 0, 8, .inl (fun _ => 0))), ((r8 3), .inl (kc 0, 8, .inl (fun _ => 0))), ((r8 4), .inl (kc 0, 8, .inl (fun _ => 0))), ((r8 5), .inl (kc 0, 8, .inl (fun _ => 0))), ((r8 6), .inl (kc 0, 8, .inl (fun _ => 0))), ((r8 7), .inl (kc 0, 8, .inl (fun _ => 0)))]) := hD
  have hP8 := hP.sub (ws' := [(h0, .inr (8, [.ref a1, .ref q1, .ref q2, .ref q3, .ref q4, .ref q5, .ref q6, .ref q7, .int 0, .int 0, .int 0, .int (-1)])), (q1, .inl (kc 0, 12, .inl (fun _ => 0))), (q2, .inl (kc 0, 12, .inl (fun _ => 0))), (q3, .inl (kc 0, 12, .inl (fun _ => 0))), (q4, .inl (kc 0, 8, .inl (fun _ => 0))), (q5, .inl (kc 0, 256, .inl (fun _ => 0))), (q6, .inl (kc 0, 256, .inl (fun _ => 0))), (q7, .inl (kc 2, 8, .inr (.inr (.inr (.inr (fun i => if i < 8 then some (r8 i) else none)))))), ((r8 0), .inl (kc 0, 8, .inl (fun _ => 0))), ((r8 1), .inl (kc 0, 8, .inl (fun _ => 0))), ((r8 2), .inl (kc 0, 8, .inl (fun _ => 0))), ((r8 3), .inl (kc 0, 8, .inl (fun _ => 0))), ((r8 4), .inl (kc 0, 8, .inl (fun _ => 0))), ((r8 5), .inl (kc 0, 8, .inl (fun _ => 0))), ((r8 6), .inl (kc 0, 8, .inl (fun _ => 0))), ((r8 7), .inl (kc 0, 8, .inl (fun _ => 0)))]) [0, 1, 2, 3, 4, 5, 6, 7, 8, 9, 10, 11, 12, 13, 14, 15] rfl
  have hD8 := hD.sub (ws' := [(h0, .inr (8, [.ref a1, .ref q1, .ref q2, .ref q3, .ref q4, .ref q5, .ref q6, .ref q7, .int 0, .int 0, .int 0, .int (-1)])), (q1, .inl (kc 0, 12, .inl (fun _ => 0))), (q2, .inl (kc 0, 12, .inl (fun _ => 0))), (q3, .inl (kc 0, 12, .inl (fun _ => 0))), (q4, .inl (kc 0, 8, .inl (fun _ => 0))), (q5, .inl (kc 0, 256, .inl (fun _ => 0))), (q6, .inl (kc 0, 256, .inl (fun _ => 0))), (q7, .inl (kc 2, 8, .inr (.inr (.inr (.inr (fun i => if i < 8 then some (r8 i) else none)))))), ((r8 0), .inl (kc 0, 8, .inl (fun _ => 0))), ((r8 1), .inl (kc 0, 8, .inl (fun _ => 0))), ((r8 2), .inl (kc 0, 8, .inl (fun _ => 0))), ((r8 3), .inl (kc 0, 8, .inl (fun _ => 0))), ((r8 4), .inl (kc 0, 8, .inl (fun _ => 0))), ((r8 5), .inl (kc 0, 8, .inl (fun _ => 0))), ((r8 6), .inl (kc 0, 8, .inl (fun _ => 0))), ((r8 7), .inl (kc 0, 8, .inl (fun _ => 0)))]) [0, 1, 2, 3, 4, 5, 6, 7, 8, 9, 10, 11, 12, 13, 14, 15] (by decide) rfl
  have e9 : (fun i => if i < 8 then some (r8 i) else none) = (fun i => if i < 8 then some ([q1, q2, q3, q4, q5, q6, q7, r8 0, r8 1, r8 2, r8 3, r8 4, r8 5, r8 6, r8 7].getD (7 + i) 0) else none) := row_e (fun i hi => by rcases (show i = 0 ∨ i = 1 ∨ i = 2 ∨ i = 3 ∨ i = 4 ∨ i = 5 ∨ i = 6 ∨ i = 7 by omega) with rfl | rfl | rfl | rfl | rfl | rfl | rfl | rfl <;> rfl)
  rw [e9] at hP8 hD8
  have hP9 : va_P D ra_cl (w_Kni kc h0 a1 (fun j => [q1, q2, q3, q4, q5, q6, q7, r8 0, r8 1, r8 2, r8 3, r8 4, r8 5, r8 6, r8 7].getD j 0)) H := hP8
  have hD9 : va_D A (w_Kni kc h0 a1 (fun j => [q1, q2, q3, q4, q5, q6, q7, r8 0, r8 1, r8 2, r8 3, r8 4, r8 5, r8 6, r8 7].getD j 0)) := hD8
  exact rz_ret (w := w_Kni kc h0 a1) F hr hlk (fun j => [q1, q2, q3, q4, q5, q6, q7, r8 0, r8 1, r8 2, r8 3, r8 4, r8 5, r8 6, r8 7].getD j 0) hP9 hD9 hS (Nat.le_of_ble_eq_true rfl) (Nat.le_of_ble_eq_true rfl) d_Kni_76
/-! RoofAcross$Helpers() -/
def rm_Hei : Room := { frames := 1, cells := 1, slots := 8, locals := 64 }
abbrev mi_Hei : ra_MI := (⟨cn_He, "<init>", "(LRoofAcross$Village;LRoofAcross$Weather;)V"⟩, prog_4_method_1_code, 3, none, rm_Hei, 3)
set_option maxRecDepth 100000 in
theorem jc_Hei : Cond.code (mi_Hei).1 (mi_Hei).2.1 (mi_Hei).2.2.1 (mi_Hei).2.2.2.1 ∈ ra_WS := ra_in 418 (by decide +kernel) (by decide +kernel)
set_option maxRecDepth 100000 in
theorem ji_Hei : Cond.initialized (mi_Hei).1.cls ∈ ra_WS := ra_in 71 (by decide +kernel) (by decide +kernel)
set_option maxRecDepth 100000 in
theorem jm_Hei : Cond.instanceMethod (mi_Hei).1 ∈ ra_WS := ra_in 417 (by decide +kernel) (by decide +kernel)
set_option maxRecDepth 100000 in
theorem jn_Hei : Cond.instantiable cn_He 3 ∈ ra_WS := ra_in 415 (by decide +kernel) (by decide +kernel)
set_option maxRecDepth 100000 in
theorem ml_Hei_3 : Cond.methodLink cn_He 3 Lib.objectInit ∈ ra_WS := ra_in 419 (by decide +kernel) (by decide +kernel)
theorem d_Hei_0 : decode prog_4_method_1_code 0 = .ok (.aload_n 0, 1) := by decide +kernel
theorem d_Hei_1 : decode prog_4_method_1_code 1 = .ok (.invokespecial 3, 3) := by decide +kernel
theorem d_Hei_4 : decode prog_4_method_1_code 4 = .ok (.aload_n 0, 1) := by decide +kernel
theorem d_Hei_5 : decode prog_4_method_1_code 5 = .ok (.bipush 8, 2) := by decide +kernel
theorem d_Hei_7 : decode prog_4_method_1_code 7 = .ok (.newarray .int, 2) := by decide +kernel
theorem d_Hei_9 : decode prog_4_method_1_code 9 = .ok (.putfield 9, 3) := by decide +kernel
theorem d_Hei_12 : decode prog_4_method_1_code 12 = .ok (.aload_n 0, 1) := by decide +kernel
theorem d_Hei_13 : decode prog_4_method_1_code 13 = .ok (.aload_n 1, 1) := by decide +kernel
theorem d_Hei_14 : decode prog_4_method_1_code 14 = .ok (.putfield 15, 3) := by decide +kernel
theorem d_Hei_17 : decode prog_4_method_1_code 17 = .ok (.aload_n 0, 1) := by decide +kernel
theorem d_Hei_18 : decode prog_4_method_1_code 18 = .ok (.aload_n 2, 1) := by decide +kernel
theorem d_Hei_19 : decode prog_4_method_1_code 19 = .ok (.putfield 19, 3) := by decide +kernel
theorem d_Hei_22 : decode prog_4_method_1_code 22 = .ok (.return_, 1) := by decide +kernel
def w_Hei (kc : Nat → ClassId) (h0 : Nat) (a1 : Nat) (a2 : Nat) (q : Nat → Nat) : va_W := [(h0, .inr (9, [.ref a1, .ref a2, .ref (q 0)])), ((q 0), .inl (kc 0, 8, .inl (fun _ => 0)))]
set_option maxHeartbeats 4000000 in
set_option maxRecDepth 100000 in
theorem c_Hei {l : Launch} {D : va_G} (kc : Nat → ClassId) (h0 : Nat) (a1 : Nat) (a2 : Nat) : rz_M l D kc mi_Hei h0 9 [.null, .null, .null] [.ref a1, .ref a2] (w_Hei kc h0 a1 a2) := by
  refine rz_enter cn_He rfl rfl rfl (by decide +kernel) (Nat.le_of_ble_eq_true rfl) ?_
  intro p e s m below meth c ls A F hin hr hlk hP hD hl
  have hl : lv_has ls 3 [(0, .ref h0), (1, .ref a1), (2, .ref a2)] := hl
  have hS : va_S A s.heap s.heap [] := va_S.rf
  refine lv_aload_n F.1 F.2.1 d_Hei_0 rfl (lv_at hl 0 rfl) ?_
  refine rz_obj F ml_Hei_3 hl (by decide) (Nat.le_of_ble_eq_true rfl) d_Hei_1 ?_
  refine lv_aload_n F.1 F.2.1 d_Hei_4 rfl (lv_at hl 0 rfl) ?_
  refine lv_bipush (v := 8) F.1 F.2.1 d_Hei_5 (by decide) ?_
  refine rz_newI F (N := 8) rfl (by decide) (Nat.le_of_ble_eq_true rfl) (Nat.le_of_ble_eq_true rfl) hP hD hS d_Hei_7 (fun q1 H hP hD hS => ?_)
  refine W.widen (k := 1) (n := 8) (Nat.le_of_ble_eq_true rfl) (Nat.le_of_ble_eq_true rfl) ?_
  have hP : va_P D ra_cl ([(h0, .inr (9, [.null, .null, .null])), (q1, .inl (kc 0, 8, .inl (fun _ => 0)))]) H := hP
  have hD : va_D A ([(h0, .inr (9, [.null, .null, .null])), (q1, .inl (kc 0, 8, .inl (fun _ => 0)))]) := hD
  refine rz_putF F hin cg_He 0 rfl 2 (by decide) fl_He_9 rfl rfl rfl rfl (Nat.le_of_ble_eq_true rfl) hP hD hS d_Hei_9 (fun H locs hP hD hS => ?_)
  have hP : va_P D ra_cl ([(h0, .inr (9, [.null, .null, .ref q1])), (q1, .inl (kc 0, 8, .inl (fun _ => 0)))]) H := hP
  have hD : va_D A ([(h0, .inr (9, [.null, .null, .ref q1])), (q1, .inl (kc 0, 8, .inl (fun _ => 0)))]) := hD
  refine lv_aload_n F.1 F.2.1 d_Hei_12 rfl (lv_at hl 0 rfl) ?_
  refine lv_aload_n F.1 F.2.1 d_Hei_13 rfl (lv_at hl 1 rfl) ?_
  refine rz_putF F hin cg_He 0 rfl 0 (by decide) fl_He_15 rfl rfl rfl rfl (Nat.le_of_ble_eq_true rfl) hP hD hS d_Hei_14 (fun H locs hP hD hS => ?_)
  have hP : va_P D ra_cl ([(h0, .inr (9, [.ref a1, .null, .ref q1])), (q1, .inl (kc 0, 8, .inl (fun _ => 0)))]) H := hP
  have hD : va_D A ([(h0, .inr (9, [.ref a1, .null, .ref q1])), (q1, .inl (kc 0, 8, .inl (fun _ => 0)))]) := hD
  refine lv_aload_n F.1 F.2.1 d_Hei_17 rfl (lv_at hl 0 rfl) ?_
  refine lv_aload_n F.1 F.2.1 d_Hei_18 rfl (lv_at hl 2 rfl) ?_
  refine rz_putF F hin cg_He 0 rfl 1 (by decide) fl_He_19 rfl rfl rfl rfl (Nat.le_of_ble_eq_true rfl) hP hD hS d_Hei_19 (fun H locs hP hD hS => ?_)
  have hP : va_P D ra_cl ([(h0, .inr (9, [.ref a1, .ref a2, .ref q1])), (q1, .inl (kc 0, 8, .inl (fun _ => 0)))]) H := hP
  have hD : va_D A ([(h0, .inr (9, [.ref a1, .ref a2, .ref q1])), (q1, .inl (kc 0, 8, .inl (fun _ => 0)))]) := hD
  have hP9 := hP.sub (ws' := w_Hei kc h0 a1 a2 (fun j => [q1].getD j 0)) [0, 1] rfl
  have hD9 := hD.sub (ws' := w_Hei kc h0 a1 a2 (fun j => [q1].getD j 0)) [0, 1] (by decide) rfl
  exact rz_ret (w := w_Hei kc h0 a1 a2) F hr hlk (fun j => [q1].getD j 0) hP9 hD9 hS (Nat.le_of_ble_eq_true rfl) (Nat.le_of_ble_eq_true rfl) d_Hei_22
/-! RoofAcross$Sheet() -/
def rm_Shi : Room := { frames := 1, cells := 1, slots := 48, locals := 64 }
abbrev mi_Shi : ra_MI := (⟨cn_Sh, "<init>", "()V"⟩, prog_7_method_1_code, 1, none, rm_Shi, 1)
set_option maxRecDepth 100000 in
theorem jc_Shi : Cond.code (mi_Shi).1 (mi_Shi).2.1 (mi_Shi).2.2.1 (mi_Shi).2.2.2.1 ∈ ra_WS := ra_in 436 (by decide +kernel) (by decide +kernel)
set_option maxRecDepth 100000 in
theorem ji_Shi : Cond.initialized (mi_Shi).1.cls ∈ ra_WS := ra_in 72 (by decide +kernel) (by decide +kernel)
set_option maxRecDepth 100000 in
theorem jm_Shi : Cond.instanceMethod (mi_Shi).1 ∈ ra_WS := ra_in 435 (by decide +kernel) (by decide +kernel)
set_option maxRecDepth 100000 in
theorem jn_Shi : Cond.instantiable cn_Sh 4 ∈ ra_WS := ra_in 433 (by decide +kernel) (by decide +kernel)
set_option maxRecDepth 100000 in
theorem ml_Shi_3 : Cond.methodLink cn_Sh 3 Lib.objectInit ∈ ra_WS := ra_in 437 (by decide +kernel) (by decide +kernel)
theorem d_Shi_0 : decode prog_7_method_1_code 0 = .ok (.aload_n 0, 1) := by decide +kernel
theorem d_Shi_1 : decode prog_7_method_1_code 1 = .ok (.invokespecial 3, 3) := by decide +kernel
theorem d_Shi_4 : decode prog_7_method_1_code 4 = .ok (.aload_n 0, 1) := by decide +kernel
theorem d_Shi_5 : decode prog_7_method_1_code 5 = .ok (.bipush 48, 2) := by decide +kernel
theorem d_Shi_7 : decode prog_7_method_1_code 7 = .ok (.newarray .int, 2) := by decide +kernel
theorem d_Shi_9 : decode prog_7_method_1_code 9 = .ok (.putfield 9, 3) := by decide +kernel
theorem d_Shi_12 : decode prog_7_method_1_code 12 = .ok (.aload_n 0, 1) := by decide +kernel
theorem d_Shi_13 : decode prog_7_method_1_code 13 = .ok (.iconst 1, 1) := by decide +kernel
theorem d_Shi_14 : decode prog_7_method_1_code 14 = .ok (.putfield 15, 3) := by decide +kernel
theorem d_Shi_17 : decode prog_7_method_1_code 17 = .ok (.return_, 1) := by decide +kernel
def w_Shi (kc : Nat → ClassId) (h0 : Nat) (q : Nat → Nat) : va_W := [(h0, .inr (10, [.ref (q 0), .int 1, .int 0, .int 0])), ((q 0), .inl (kc 0, 48, .inl (fun _ => 0)))]
set_option maxHeartbeats 4000000 in
set_option maxRecDepth 100000 in
theorem c_Shi {l : Launch} {D : va_G} (kc : Nat → ClassId) (h0 : Nat) : rz_M l D kc mi_Shi h0 10 [.null, .int 0, .int 0, .int 0] [] (w_Shi kc h0) := by
  refine rz_enter cn_Sh rfl rfl rfl (by decide +kernel) (Nat.le_of_ble_eq_true rfl) ?_
  intro p e s m below meth c ls A F hin hr hlk hP hD hl
  have hl : lv_has ls 1 [(0, .ref h0)] := hl
  have hS : va_S A s.heap s.heap [] := va_S.rf
  refine lv_aload_n F.1 F.2.1 d_Shi_0 rfl (lv_at hl 0 rfl) ?_
  refine rz_obj F ml_Shi_3 hl (by decide) (Nat.le_of_ble_eq_true rfl) d_Shi_1 ?_
  refine lv_aload_n F.1 F.2.1 d_Shi_4 rfl (lv_at hl 0 rfl) ?_
  refine lv_bipush (v := 48) F.1 F.2.1 d_Shi_5 (by decide) ?_
  refine rz_newI F (N := 48) rfl (by decide) (Nat.le_of_ble_eq_true rfl) (Nat.le_of_ble_eq_true rfl) hP hD hS d_Shi_7 (fun q1 H hP hD hS => ?_)
  refine W.widen (k := 1) (n := 48) (Nat.le_of_ble_eq_true rfl) (Nat.le_of_ble_eq_true rfl) ?_
  have hP : va_P D ra_cl ([(h0, .inr (10, [.null, .int 0, .int 0, .int 0])), (q1, .inl (kc 0, 48, .inl (fun _ => 0)))]) H := hP
  have hD : va_D A ([(h0, .inr (10, [.null, .int 0, .int 0, .int 0])), (q1, .inl (kc 0, 48, .inl (fun _ => 0)))]) := hD
  refine rz_putF F hin cg_Sh 0 rfl 0 (by decide) fl_Sh_9 rfl rfl rfl rfl (Nat.le_of_ble_eq_true rfl) hP hD hS d_Shi_9 (fun H locs hP hD hS => ?_)
  have hP : va_P D ra_cl ([(h0, .inr (10, [.ref q1, .int 0, .int 0, .int 0])), (q1, .inl (kc 0, 48, .inl (fun _ => 0)))]) H := hP
  have hD : va_D A ([(h0, .inr (10, [.ref q1, .int 0, .int 0, .int 0])), (q1, .inl (kc 0, 48, .inl (fun _ => 0)))]) := hD
  refine lv_aload_n F.1 F.2.1 d_Shi_12 rfl (lv_at hl 0 rfl) ?_
  refine lv_iconst (v := 1) F.1 F.2.1 d_Shi_13 (by decide) ?_
  refine rz_put F cg_Sh 0 rfl 1 (by decide) fl_Sh_15 rfl rfl rfl (Nat.le_of_ble_eq_true rfl) hP hD hS d_Shi_14 (fun H locs hP hD hS => ?_)
  have hP : va_P D ra_cl ([(h0, .inr (10, [.ref q1, .int 1, .int 0, .int 0])), (q1, .inl (kc 0, 48, .inl (fun _ => 0)))]) H := hP
  have hD : va_D A ([(h0, .inr (10, [.ref q1, .int 1, .int 0, .int 0])), (q1, .inl (kc 0, 48, .inl (fun _ => 0)))]) := hD
  have hP9 := hP.sub (ws' := w_Shi kc h0 (fun j => [q1].getD j 0)) [0, 1] rfl
  have hD9 := hD.sub (ws' := w_Shi kc h0 (fun j => [q1].getD j 0)) [0, 1] (by decide) rfl
  exact rz_ret (w := w_Shi kc h0) F hr hlk (fun j => [q1].getD j 0) hP9 hD9 hS (Nat.le_of_ble_eq_true rfl) (Nat.le_of_ble_eq_true rfl) d_Shi_17
