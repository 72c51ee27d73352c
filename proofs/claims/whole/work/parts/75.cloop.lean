/-! the law's loop -/
section LOOPL
variable {X : ra_X} {p : Program} {l : Launch} {e : Env} {s : State} {m : MethodId} {below : List Frame} {meth : Method} {c : Code} {b L : Nat} {xs : Nat → Int32}
theorem lw_gt {N L : Nat} (hN : N ≤ 4000) (hL : L ≤ 3072) (h : ¬ (nI N > Int32.ofNat L - 6)) : N + 6 ≤ L := by
  have h1 : (nI L - nI 6).toInt = (L : Int) - 6 := pk_sub_toInt (by omega) (by omega)
  have h2 : (nI N).toInt = (N : Int) := nI_toInt (by omega)
  have h3 : ¬ ((nI L - nI 6).toInt < (nI N).toInt) := fun q => h (Int32.lt_iff_toInt_lt.mpr q)
  omega
theorem lw_loop (C : lw_C X p s m c b L xs) (hr : meth.sig.returnType = ret) (hlk : meth.locks = false) (hA : ∀ q, ra_A X q → s.heap.size ≤ q) : ∀ (k N n : Nat) (σ : ra_St) (H : Heap) (locs : List Loc) (ls : Array Slot), L ≤ N + k → N ≤ L + 6 → n ≤ N → lj n σ → va_P X.2.1 ra_cl (ra_wl X σ) H → va_S (ra_A X) s.heap H locs → lv_has ls 4 (lw_lv X b N) → W p l e room_1 s m #[Value.ref b] below meth c H locs 600000 7302250 (lw_Z below #[Value.ref b] s) (F0 m 18 ls []) := by
  have h3 := C.2.2.2.2
  intro k
  induction k with
  | zero =>
    intro N n σ H locs ls hk hN hnN hj hP hS hl
    refine lv_iload_n C.1.1 C.1.2.1 dl_18 rfl (lv_at hl 0 rfl) ?_
    refine lv_aload_n C.1.1 C.1.2.1 dl_19 rfl (lv_at hl 3 rfl) ?_
    refine va_slen C.1.1 C.1.2.1 C.2.1 C.2.2.1 C.2.2.2.1 hS dl_20 ?_
    refine lv_bipush (v := 6) C.1.1 C.1.2.1 dl_21 (by decide) ?_
    refine lv_isub C.1.1 C.1.2.1 dl_23 ?_
    refine lv_icmp_gt (tgt := 1223) C.1.1 C.1.2.1 dl_24 (by decide) (fun _ => ?_) (fun h => ?_)
    · refine lv_iconst (v := 1) C.1.1 C.1.2.1 dl_1223 (by decide) ?_
      exact va_forget (fun q hq => hA _ (hS.2.2 q hq)) (lw_ret C.1.1 C.1.2.1 hr hlk dl_1224)
    · have := lw_gt (by omega) h3 h
      omega
  | succ k ih =>
    intro N n σ H locs ls hk hN hnN hj hP hS hl
    refine lv_iload_n C.1.1 C.1.2.1 dl_18 rfl (lv_at hl 0 rfl) ?_
    refine lv_aload_n C.1.1 C.1.2.1 dl_19 rfl (lv_at hl 3 rfl) ?_
    refine va_slen C.1.1 C.1.2.1 C.2.1 C.2.2.1 C.2.2.2.1 hS dl_20 ?_
    refine lv_bipush (v := 6) C.1.1 C.1.2.1 dl_21 (by decide) ?_
    refine lv_isub C.1.1 C.1.2.1 dl_23 ?_
    refine lv_icmp_gt (tgt := 1223) C.1.1 C.1.2.1 dl_24 (by decide) (fun _ => ?_) (fun h => ?_)
    · refine lv_iconst (v := 1) C.1.1 C.1.2.1 dl_1223 (by decide) ?_
      exact va_forget (fun q hq => hA _ (hS.2.2 q hq)) (lw_ret C.1.1 C.1.2.1 hr hlk dl_1224)
    · have h6 := lw_gt (by omega) h3 h
      refine ca_all_sw C N n σ H locs ls h6 hj (by omega) hP hS hl ⟨Nat.le_refl _, Nat.le_refl _⟩ (fun H1 locs1 σ1 hj1 hP1 hS1 => ?_)
      refine lv_iinc (v := nI (N + 6)) (lv' := lw_lv X b (N + 6)) C.1.1 C.1.2.1 dl_1217 hl (k := 0) rfl (nI_add N 6) (by decide) rfl (fun ls1 hl1 => ?_)
      refine lv_goto (tgt := 18) C.1.1 C.1.2.1 dl_1220 (by decide) ?_
      exact ih (N + 6) (n + 1) σ1 H1 locs1 ls1 (by omega) (by omega) (by omega) hj1 hP1 hS1 hl1
end LOOPL
