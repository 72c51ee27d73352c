section RAT
variable {X : ra_X} {p : Program} {l : Launch} {e : Env} {R : Room} {s : State} {m : MethodId} {args : Array Value} {below : List Frame} {meth : Method} {c : Code} {nL : Nat} {Q : State → Prop} {cc : ByteArray} {own : String} {pc : Nat} {k kt kf : ra_K}
theorem r_iadd (F : ra_Fx X p R s m args c cc nL own) (hd : decode cc pc = .ok (.iadd, 1)) (h : ra_At X p l e R s m args below meth c nL Q k (pc + 1)) : ra_At X p l e R s m args below meth c nL Q (w_i2 (fun x y => x + y) k) pc := by
  intro L S σ H locs ls q hP hS hl
  unfold w_i2 at q
  split at q
  · exact lv_iadd F.1 F.2.1 hd (h L _ σ H locs ls q hP hS hl)
  · exact q.elim
theorem r_isub (F : ra_Fx X p R s m args c cc nL own) (hd : decode cc pc = .ok (.isub, 1)) (h : ra_At X p l e R s m args below meth c nL Q k (pc + 1)) : ra_At X p l e R s m args below meth c nL Q (w_i2 (fun x y => x - y) k) pc := by
  intro L S σ H locs ls q hP hS hl
  unfold w_i2 at q
  split at q
  · exact lv_isub F.1 F.2.1 hd (h L _ σ H locs ls q hP hS hl)
  · exact q.elim
theorem r_imul (F : ra_Fx X p R s m args c cc nL own) (hd : decode cc pc = .ok (.imul, 1)) (h : ra_At X p l e R s m args below meth c nL Q k (pc + 1)) : ra_At X p l e R s m args below meth c nL Q (w_i2 (fun x y => x * y) k) pc := by
  intro L S σ H locs ls q hP hS hl
  unfold w_i2 at q
  split at q
  · exact lv_imul F.1 F.2.1 hd (h L _ σ H locs ls q hP hS hl)
  · exact q.elim
theorem r_iand (F : ra_Fx X p R s m args c cc nL own) (hd : decode cc pc = .ok (.iand, 1)) (h : ra_At X p l e R s m args below meth c nL Q k (pc + 1)) : ra_At X p l e R s m args below meth c nL Q (w_i2 (fun x y => x &&& y) k) pc := by
  intro L S σ H locs ls q hP hS hl
  unfold w_i2 at q
  split at q
  · exact lv_iand F.1 F.2.1 hd (h L _ σ H locs ls q hP hS hl)
  · exact q.elim
theorem r_ior (F : ra_Fx X p R s m args c cc nL own) (hd : decode cc pc = .ok (.ior, 1)) (h : ra_At X p l e R s m args below meth c nL Q k (pc + 1)) : ra_At X p l e R s m args below meth c nL Q (w_i2 (fun x y => x ||| y) k) pc := by
  intro L S σ H locs ls q hP hS hl
  unfold w_i2 at q
  split at q
  · exact lv_ior F.1 F.2.1 hd (h L _ σ H locs ls q hP hS hl)
  · exact q.elim
theorem r_ixor (F : ra_Fx X p R s m args c cc nL own) (hd : decode cc pc = .ok (.ixor, 1)) (h : ra_At X p l e R s m args below meth c nL Q k (pc + 1)) : ra_At X p l e R s m args below meth c nL Q (w_i2 (fun x y => x ^^^ y) k) pc := by
  intro L S σ H locs ls q hP hS hl
  unfold w_i2 at q
  split at q
  · exact lv_ixor F.1 F.2.1 hd (h L _ σ H locs ls q hP hS hl)
  · exact q.elim
theorem r_ishl (F : ra_Fx X p R s m args c cc nL own) (hd : decode cc pc = .ok (.ishl, 1)) (h : ra_At X p l e R s m args below meth c nL Q k (pc + 1)) : ra_At X p l e R s m args below meth c nL Q (w_i2 (fun x y => x <<< (y &&& 31)) k) pc := by
  intro L S σ H locs ls q hP hS hl
  unfold w_i2 at q
  split at q
  · exact lv_ishl F.1 F.2.1 hd (h L _ σ H locs ls q hP hS hl)
  · exact q.elim
theorem r_ishr (F : ra_Fx X p R s m args c cc nL own) (hd : decode cc pc = .ok (.ishr, 1)) (h : ra_At X p l e R s m args below meth c nL Q k (pc + 1)) : ra_At X p l e R s m args below meth c nL Q (w_i2 (fun x y => x >>> (y &&& 31)) k) pc := by
  intro L S σ H locs ls q hP hS hl
  unfold w_i2 at q
  split at q
  · exact lv_ishr F.1 F.2.1 hd (h L _ σ H locs ls q hP hS hl)
  · exact q.elim
theorem r_iushr (F : ra_Fx X p R s m args c cc nL own) (hd : decode cc pc = .ok (.iushr, 1)) (h : ra_At X p l e R s m args below meth c nL Q k (pc + 1)) : ra_At X p l e R s m args below meth c nL Q (w_i2 (fun x y => (x.toUInt32 >>> (y.toUInt32 &&& Int32.toUInt32 31)).toInt32) k) pc := by
  intro L S σ H locs ls q hP hS hl
  unfold w_i2 at q
  split at q
  · exact lv_iushr F.1 F.2.1 hd rfl (h L _ σ H locs ls q hP hS hl)
  · exact q.elim
theorem r_idiv (F : ra_Fx X p R s m args c cc nL own) (hd : decode cc pc = .ok (.idiv, 1)) (h : ra_At X p l e R s m args below meth c nL Q k (pc + 1)) : ra_At X p l e R s m args below meth c nL Q (w_dv (fun x y => x / y) k) pc := by
  intro L S σ H locs ls q hP hS hl
  unfold w_dv at q
  split at q
  · exact lv_idiv F.1 F.2.1 hd q.1 (h L _ σ H locs ls q.2 hP hS hl)
  · exact q.elim
theorem r_irem (F : ra_Fx X p R s m args c cc nL own) (hd : decode cc pc = .ok (.irem, 1)) (h : ra_At X p l e R s m args below meth c nL Q k (pc + 1)) : ra_At X p l e R s m args below meth c nL Q (w_dv (fun x y => x - x / y * y) k) pc := by
  intro L S σ H locs ls q hP hS hl
  unfold w_dv at q
  split at q
  · exact lv_irem F.1 F.2.1 hd q.1 (h L _ σ H locs ls q.2 hP hS hl)
  · exact q.elim
theorem r_ineg (F : ra_Fx X p R s m args c cc nL own) (hd : decode cc pc = .ok (.ineg, 1)) (h : ra_At X p l e R s m args below meth c nL Q k (pc + 1)) : ra_At X p l e R s m args below meth c nL Q (w_i1 (fun x => -x) k) pc := by
  intro L S σ H locs ls q hP hS hl
  unfold w_i1 at q
  split at q
  · exact lv_ineg F.1 F.2.1 hd (h L _ σ H locs ls q hP hS hl)
  · exact q.elim
theorem r_i2b (F : ra_Fx X p R s m args c cc nL own) (hd : decode cc pc = .ok (.i2b, 1)) (h : ra_At X p l e R s m args below meth c nL Q k (pc + 1)) : ra_At X p l e R s m args below meth c nL Q (w_i1 (fun x => x.toInt8.toInt32) k) pc := by
  intro L S σ H locs ls q hP hS hl
  unfold w_i1 at q
  split at q
  · exact lv_i2b F.1 F.2.1 hd rfl (h L _ σ H locs ls q hP hS hl)
  · exact q.elim
theorem r_i2s (F : ra_Fx X p R s m args c cc nL own) (hd : decode cc pc = .ok (.i2s, 1)) (h : ra_At X p l e R s m args below meth c nL Q k (pc + 1)) : ra_At X p l e R s m args below meth c nL Q (w_i1 (fun x => x.toInt16.toInt32) k) pc := by
  intro L S σ H locs ls q hP hS hl
  unfold w_i1 at q
  split at q
  · exact lv_i2s F.1 F.2.1 hd rfl (h L _ σ H locs ls q hP hS hl)
  · exact q.elim
theorem r_i2c (F : ra_Fx X p R s m args c cc nL own) (hd : decode cc pc = .ok (.i2c, 1)) (h : ra_At X p l e R s m args below meth c nL Q k (pc + 1)) : ra_At X p l e R s m args below meth c nL Q (w_i1 (fun x => (x.toUInt32 % 65536).toInt32) k) pc := by
  intro L S σ H locs ls q hP hS hl
  unfold w_i1 at q
  split at q
  · exact lv_i2c F.1 F.2.1 hd rfl (h L _ σ H locs ls q hP hS hl)
  · exact q.elim
theorem r_i2l (F : ra_Fx X p R s m args c cc nL own) (hd : decode cc pc = .ok (.i2l, 1)) (h : ra_At X p l e R s m args below meth c nL Q k (pc + 1)) : ra_At X p l e R s m args below meth c nL Q (w_i2l k) pc := by
  intro L S σ H locs ls q hP hS hl
  unfold w_i2l at q
  split at q
  · exact lv_i2l F.1 F.2.1 hd rfl (h L _ σ H locs ls q hP hS hl)
  · exact q.elim
theorem r_ladd (F : ra_Fx X p R s m args c cc nL own) (hd : decode cc pc = .ok (.ladd, 1)) (h : ra_At X p l e R s m args below meth c nL Q k (pc + 1)) : ra_At X p l e R s m args below meth c nL Q (w_l2 (fun x y => x + y) k) pc := by
  intro L S σ H locs ls q hP hS hl
  unfold w_l2 at q
  split at q
  · exact lv_ladd F.1 F.2.1 hd (h L _ σ H locs ls q hP hS hl)
  · exact q.elim
theorem r_lmul (F : ra_Fx X p R s m args c cc nL own) (hd : decode cc pc = .ok (.lmul, 1)) (h : ra_At X p l e R s m args below meth c nL Q k (pc + 1)) : ra_At X p l e R s m args below meth c nL Q (w_l2 (fun x y => x * y) k) pc := by
  intro L S σ H locs ls q hP hS hl
  unfold w_l2 at q
  split at q
  · exact lv_lmul F.1 F.2.1 hd (h L _ σ H locs ls q hP hS hl)
  · exact q.elim
theorem r_lcmp (F : ra_Fx X p R s m args c cc nL own) (hd : decode cc pc = .ok (.lcmp, 1)) (h : ra_At X p l e R s m args below meth c nL Q k (pc + 1)) : ra_At X p l e R s m args below meth c nL Q (w_lcmp k) pc := by
  intro L S σ H locs ls q hP hS hl
  unfold w_lcmp at q
  split at q
  · exact W.lcmp F.1 F.2.1 hd (h L _ σ H locs ls q hP hS hl)
  · exact q.elim
theorem r_dup (F : ra_Fx X p R s m args c cc nL own) (hd : decode cc pc = .ok (.dup, 1)) (h : ra_At X p l e R s m args below meth c nL Q k (pc + 1)) : ra_At X p l e R s m args below meth c nL Q (w_dup k) pc := by
  intro L S σ H locs ls q hP hS hl
  unfold w_dup at q
  split at q
  · next x S => exact lv_dup F.1 F.2.1 hd rfl (h L (.int x :: .int x :: S) σ H locs ls q hP hS hl)
  · next x S => exact lv_dup F.1 F.2.1 hd rfl (h L (.ref x :: .ref x :: S) σ H locs ls q hP hS hl)
  · exact q.elim
theorem r_dup2 (F : ra_Fx X p R s m args c cc nL own) (hd : decode cc pc = .ok (.dup2, 1)) (h : ra_At X p l e R s m args below meth c nL Q k (pc + 1)) : ra_At X p l e R s m args below meth c nL Q (w_dup2 k) pc := by
  intro L S σ H locs ls q hP hS hl
  unfold w_dup2 at q
  split at q
  · next y x S => exact lv_dup2_11 F.1 F.2.1 hd rfl rfl (h L (.int y :: .ref x :: .int y :: .ref x :: S) σ H locs ls q hP hS hl)
  · exact q.elim
theorem r_goto (F : ra_Fx X p R s m args c cc nL own) {off : Int} {tgt : Nat} (hd : decode cc pc = .ok (.goto off, 3)) (ht : (pc : Int) + off = (tgt : Int)) (h : ra_At X p l e R s m args below meth c nL Q k tgt) : ra_At X p l e R s m args below meth c nL Q k pc :=
  fun L S σ H locs ls q hP hS hl => lv_goto F.1 F.2.1 hd ht (h L S σ H locs ls q hP hS hl)
theorem r_if_eq (F : ra_Fx X p R s m args c cc nL own) {off : Int} {tgt : Nat} (hd : decode cc pc = .ok (.ifCond .eq off, 3)) (ht : (pc : Int) + off = (tgt : Int)) (h1 : ra_At X p l e R s m args below meth c nL Q kt tgt) (h2 : ra_At X p l e R s m args below meth c nL Q kf (pc + 3)) : ra_At X p l e R s m args below meth c nL Q (w_b1 (fun x => x = 0) kt kf) pc := by
  intro L S σ H locs ls q hP hS hl
  unfold w_b1 at q
  split at q
  · next x S => exact lv_if_eq F.1 F.2.1 hd ht (fun z => h1 L S σ H locs ls (q.1 z) hP hS hl) (fun z => h2 L S σ H locs ls (q.2 z) hP hS hl)
  · exact q.elim
theorem r_if_ne (F : ra_Fx X p R s m args c cc nL own) {off : Int} {tgt : Nat} (hd : decode cc pc = .ok (.ifCond .ne off, 3)) (ht : (pc : Int) + off = (tgt : Int)) (h1 : ra_At X p l e R s m args below meth c nL Q kt tgt) (h2 : ra_At X p l e R s m args below meth c nL Q kf (pc + 3)) : ra_At X p l e R s m args below meth c nL Q (w_b1 (fun x => x = 0) kf kt) pc := by
  intro L S σ H locs ls q hP hS hl
  unfold w_b1 at q
  split at q
  · next x S => exact lv_if_ne F.1 F.2.1 hd ht (fun z => h1 L S σ H locs ls (q.2 z) hP hS hl) (fun z => h2 L S σ H locs ls (q.1 z) hP hS hl)
  · exact q.elim
theorem r_if_lt (F : ra_Fx X p R s m args c cc nL own) {off : Int} {tgt : Nat} (hd : decode cc pc = .ok (.ifCond .lt off, 3)) (ht : (pc : Int) + off = (tgt : Int)) (h1 : ra_At X p l e R s m args below meth c nL Q kt tgt) (h2 : ra_At X p l e R s m args below meth c nL Q kf (pc + 3)) : ra_At X p l e R s m args below meth c nL Q (w_b1 (fun x => x < 0) kt kf) pc := by
  intro L S σ H locs ls q hP hS hl
  unfold w_b1 at q
  split at q
  · next x S => exact lv_if_lt F.1 F.2.1 hd ht (fun z => h1 L S σ H locs ls (q.1 z) hP hS hl) (fun z => h2 L S σ H locs ls (q.2 z) hP hS hl)
  · exact q.elim
theorem r_if_ge (F : ra_Fx X p R s m args c cc nL own) {off : Int} {tgt : Nat} (hd : decode cc pc = .ok (.ifCond .ge off, 3)) (ht : (pc : Int) + off = (tgt : Int)) (h1 : ra_At X p l e R s m args below meth c nL Q kt tgt) (h2 : ra_At X p l e R s m args below meth c nL Q kf (pc + 3)) : ra_At X p l e R s m args below meth c nL Q (w_b1 (fun x => 0 ≤ x) kt kf) pc := by
  intro L S σ H locs ls q hP hS hl
  unfold w_b1 at q
  split at q
  · next x S => exact lv_if_ge F.1 F.2.1 hd ht (fun z => h1 L S σ H locs ls (q.1 z) hP hS hl) (fun z => h2 L S σ H locs ls (q.2 z) hP hS hl)
  · exact q.elim
theorem r_if_gt (F : ra_Fx X p R s m args c cc nL own) {off : Int} {tgt : Nat} (hd : decode cc pc = .ok (.ifCond .gt off, 3)) (ht : (pc : Int) + off = (tgt : Int)) (h1 : ra_At X p l e R s m args below meth c nL Q kt tgt) (h2 : ra_At X p l e R s m args below meth c nL Q kf (pc + 3)) : ra_At X p l e R s m args below meth c nL Q (w_b1 (fun x => 0 < x) kt kf) pc := by
  intro L S σ H locs ls q hP hS hl
  unfold w_b1 at q
  split at q
  · next x S => exact lv_if_gt F.1 F.2.1 hd ht (fun z => h1 L S σ H locs ls (q.1 z) hP hS hl) (fun z => h2 L S σ H locs ls (q.2 z) hP hS hl)
  · exact q.elim
theorem r_if_le (F : ra_Fx X p R s m args c cc nL own) {off : Int} {tgt : Nat} (hd : decode cc pc = .ok (.ifCond .le off, 3)) (ht : (pc : Int) + off = (tgt : Int)) (h1 : ra_At X p l e R s m args below meth c nL Q kt tgt) (h2 : ra_At X p l e R s m args below meth c nL Q kf (pc + 3)) : ra_At X p l e R s m args below meth c nL Q (w_b1 (fun x => x ≤ 0) kt kf) pc := by
  intro L S σ H locs ls q hP hS hl
  unfold w_b1 at q
  split at q
  · next x S => exact lv_if_le F.1 F.2.1 hd ht (fun z => h1 L S σ H locs ls (q.1 z) hP hS hl) (fun z => h2 L S σ H locs ls (q.2 z) hP hS hl)
  · exact q.elim
theorem r_icmp_eq (F : ra_Fx X p R s m args c cc nL own) {off : Int} {tgt : Nat} (hd : decode cc pc = .ok (.if_icmp .eq off, 3)) (ht : (pc : Int) + off = (tgt : Int)) (h1 : ra_At X p l e R s m args below meth c nL Q kt tgt) (h2 : ra_At X p l e R s m args below meth c nL Q kf (pc + 3)) : ra_At X p l e R s m args below meth c nL Q (w_b2 (fun x y => x = y) kt kf) pc := by
  intro L S σ H locs ls q hP hS hl
  unfold w_b2 at q
  split at q
  · next y x S => exact lv_icmp_eq F.1 F.2.1 hd ht (fun z => h1 L S σ H locs ls (q.1 z) hP hS hl) (fun z => h2 L S σ H locs ls (q.2 z) hP hS hl)
  · exact q.elim
theorem r_icmp_ne (F : ra_Fx X p R s m args c cc nL own) {off : Int} {tgt : Nat} (hd : decode cc pc = .ok (.if_icmp .ne off, 3)) (ht : (pc : Int) + off = (tgt : Int)) (h1 : ra_At X p l e R s m args below meth c nL Q kt tgt) (h2 : ra_At X p l e R s m args below meth c nL Q kf (pc + 3)) : ra_At X p l e R s m args below meth c nL Q (w_b2 (fun x y => x = y) kf kt) pc := by
  intro L S σ H locs ls q hP hS hl
  unfold w_b2 at q
  split at q
  · next y x S => exact lv_icmp_ne F.1 F.2.1 hd ht (fun z => h1 L S σ H locs ls (q.2 z) hP hS hl) (fun z => h2 L S σ H locs ls (q.1 z) hP hS hl)
  · exact q.elim
theorem r_icmp_lt (F : ra_Fx X p R s m args c cc nL own) {off : Int} {tgt : Nat} (hd : decode cc pc = .ok (.if_icmp .lt off, 3)) (ht : (pc : Int) + off = (tgt : Int)) (h1 : ra_At X p l e R s m args below meth c nL Q kt tgt) (h2 : ra_At X p l e R s m args below meth c nL Q kf (pc + 3)) : ra_At X p l e R s m args below meth c nL Q (w_b2 (fun x y => x < y) kt kf) pc := by
  intro L S σ H locs ls q hP hS hl
  unfold w_b2 at q
  split at q
  · next y x S => exact lv_icmp_lt F.1 F.2.1 hd ht (fun z => h1 L S σ H locs ls (q.1 z) hP hS hl) (fun z => h2 L S σ H locs ls (q.2 z) hP hS hl)
  · exact q.elim
theorem r_icmp_ge (F : ra_Fx X p R s m args c cc nL own) {off : Int} {tgt : Nat} (hd : decode cc pc = .ok (.if_icmp .ge off, 3)) (ht : (pc : Int) + off = (tgt : Int)) (h1 : ra_At X p l e R s m args below meth c nL Q kt tgt) (h2 : ra_At X p l e R s m args below meth c nL Q kf (pc + 3)) : ra_At X p l e R s m args below meth c nL Q (w_b2 (fun x y => y ≤ x) kt kf) pc := by
  intro L S σ H locs ls q hP hS hl
  unfold w_b2 at q
  split at q
  · next y x S => exact lv_icmp_ge F.1 F.2.1 hd ht (fun z => h1 L S σ H locs ls (q.1 z) hP hS hl) (fun z => h2 L S σ H locs ls (q.2 z) hP hS hl)
  · exact q.elim
theorem r_icmp_gt (F : ra_Fx X p R s m args c cc nL own) {off : Int} {tgt : Nat} (hd : decode cc pc = .ok (.if_icmp .gt off, 3)) (ht : (pc : Int) + off = (tgt : Int)) (h1 : ra_At X p l e R s m args below meth c nL Q kt tgt) (h2 : ra_At X p l e R s m args below meth c nL Q kf (pc + 3)) : ra_At X p l e R s m args below meth c nL Q (w_b2 (fun x y => y < x) kt kf) pc := by
  intro L S σ H locs ls q hP hS hl
  unfold w_b2 at q
  split at q
  · next y x S => exact lv_icmp_gt F.1 F.2.1 hd ht (fun z => h1 L S σ H locs ls (q.1 z) hP hS hl) (fun z => h2 L S σ H locs ls (q.2 z) hP hS hl)
  · exact q.elim
theorem r_icmp_le (F : ra_Fx X p R s m args c cc nL own) {off : Int} {tgt : Nat} (hd : decode cc pc = .ok (.if_icmp .le off, 3)) (ht : (pc : Int) + off = (tgt : Int)) (h1 : ra_At X p l e R s m args below meth c nL Q kt tgt) (h2 : ra_At X p l e R s m args below meth c nL Q kf (pc + 3)) : ra_At X p l e R s m args below meth c nL Q (w_b2 (fun x y => x ≤ y) kt kf) pc := by
  intro L S σ H locs ls q hP hS hl
  unfold w_b2 at q
  split at q
  · next y x S => exact lv_icmp_le F.1 F.2.1 hd ht (fun z => h1 L S σ H locs ls (q.1 z) hP hS hl) (fun z => h2 L S σ H locs ls (q.2 z) hP hS hl)
  · exact q.elim
end RAT
