/-! from the entry to the loop -/
set_option maxRecDepth 100000 in
theorem cl_L_7 : Cond.classLink "RoofAcrossLaw" 7 cn_R ∈ ra_WS := ra_in 82 (by decide +kernel) (by decide +kernel)
set_option maxRecDepth 100000 in
theorem cl_L_10 : Cond.classLink "RoofAcrossLaw" 10 cn_N ∈ ra_WS := ra_in 1001 (by decide +kernel) (by decide +kernel)
set_option maxRecDepth 100000 in
theorem ml_L_9 : Cond.methodLink "RoofAcrossLaw" 9 (mi_Ri).1 ∈ ra_WS := ra_in 84 (by decide +kernel) (by decide +kernel)
set_option maxRecDepth 100000 in
theorem ml_L_12 : Cond.methodLink "RoofAcrossLaw" 12 (mi_Ni).1 ∈ ra_WS := ra_in 1003 (by decide +kernel) (by decide +kernel)
set_option maxRecDepth 100000 in
theorem lt_rows : Cond.arrayOver (.array .int) ∈ lw_tbl := List.mem_of_getElem? (i := 222) (by decide +kernel)
set_option maxRecDepth 100000 in
theorem lt_sheet : Cond.arrayOver (.object "RoofAcross$Sheet") ∈ lw_tbl := List.mem_of_getElem? (i := 432) (by decide +kernel)
set_option maxRecDepth 100000 in
theorem lt_str : Cond.stringRef "RoofAcross$Village" 94 "kgfl" ∈ lw_tbl := List.mem_of_getElem? (i := 517) (by decide +kernel)
set_option maxRecDepth 100000 in
theorem lt_cs : Cond.laysStatic "java/lang/String" "COMPACT_STRINGS" "Z" ∈ lw_tbl := List.mem_of_getElem? (i := 531) (by decide +kernel)
set_option maxRecDepth 100000 in
theorem lt_js : Cond.initialized "java/lang/String" ∈ lw_tbl := List.mem_of_getElem? (i := 74) (by decide +kernel)
theorem lt_of {ws : List Cond} (ps : List Nat) (h : ws = ps.filterMap (fun i => lw_tbl[i]?)) : ∀ w ∈ ws, w ∈ lw_tbl := by
  intro w hw
  rw [h] at hw
  obtain ⟨i, -, hi⟩ := List.mem_filterMap.mp hw
  exact List.mem_of_getElem? hi
set_option maxRecDepth 100000 in
theorem lt_NWz : ∀ w ∈ rz_NW, w ∈ lw_tbl := lt_of [92, 182, 434] (by decide +kernel)
set_option maxRecDepth 100000 in
theorem lt_NWa : ∀ w ∈ ra_NW, w ∈ lw_tbl := lt_of [713, 833, 871, 784, 621, 951, 620, 661] (by decide +kernel)
section START
variable {s : State} {b : Nat}
theorem st_NWz (hts : ∀ w ∈ lw_tbl, w.before #[Value.ref b] s = true) : ∀ w ∈ rz_NW, va_Nw w s := by
  intro w hw
  have h1 := hts w (lt_NWz w hw)
  simp only [rz_NW, List.mem_cons, List.not_mem_nil, or_false] at hw
  rcases hw with rfl | rfl | rfl <;> exact va_Nw.of rfl h1
theorem st_NWa (hts : ∀ w ∈ lw_tbl, w.before #[Value.ref b] s = true) : ∀ w ∈ ra_NW, va_Nw w s := by
  intro w hw
  have h1 := hts w (lt_NWa w hw)
  simp only [ra_NW, List.mem_cons, List.not_mem_nil, or_false] at hw
  rcases hw with rfl | rfl | rfl | rfl | rfl | rfl | rfl | rfl <;> exact va_Nw.of rfl h1
theorem st_str {A : Nat → Prop} (hgv : (Jvm.Cond.and given_1 narrow_1).before #[Value.ref b] s = true) (hA : ∀ a : Nat, a < s.heap.size → ¬ A a) : ∃ t : Nat × Nat, vk_S 1 [4] [[107, 103, 102, 108]] (fun _ => t.1) (fun _ => t.2) A s s.heap ∧ (Term.string "RoofAcross$Village" 94).eval #[Value.ref b] s none [] s = some (.ref t.1) := by
  have hs := flat_of_before _ hgv
  have z : ∀ {i : Nat}, i < 1 → i = 0 := fun h => by omega
  have p1 : ∀ i : Nat, i < 1 → ([4] : List Nat).getD i 0 < 2 ^ 31 := by
    intro i hi
    rw [z hi]
    decide
  have p2 : ∀ i : Nat, i < 1 → (Cond.eq (.length (.field (.string "RoofAcross$Village" 94) "java/lang/String" "value" "[B")) (.int (Int32.ofNat (([4] : List Nat).getD i 0)))).before #[Value.ref b] s = true := by
    intro i hi
    rw [z hi]
    exact hs _ (by decide +kernel)
  have p3 : ∀ i : Nat, i < 1 → ∀ j : Nat, j < ([4] : List Nat).getD i 0 → (Cond.eq (.elem (.field (.string "RoofAcross$Village" 94) "java/lang/String" "value" "[B") (.int (Int32.ofNat j))) (.int ((([[107, 103, 102, 108]] : List (List Int32)).getD i []).getD j 0))).before #[Value.ref b] s = true := by
    intro i hi j hj
    rw [z hi] at hj ⊢
    have hj4 : j < 4 := hj
    rcases (show j = 0 ∨ j = 1 ∨ j = 2 ∨ j = 3 by omega) with rfl | rfl | rfl | rfl <;> exact hs _ (by decide +kernel)
  obtain ⟨adK, adV, h1, h2⟩ := vk_Sof (args := #[Value.ref b]) (s := s) (N := 1) (tm := fun _ => .string "RoofAcross$Village" 94) (len := [4]) (byt := [[107, 103, 102, 108]]) (A := A) p1 (fun i hi => hs _ (by decide +kernel)) (fun i hi => hs _ (by decide +kernel)) (fun i hi => hs _ (by decide +kernel)) p2 p3 (fun i j hi hj hij => absurd ((z hi).trans (z hj).symm) hij) hA
  refine ⟨(adK 0, adV 0), ⟨fun i hi => ?_, fun i j hi hj _ => by omega⟩, h2 0 (by decide)⟩
  rw [z hi]
  exact h1.1 0 (by decide)
theorem st_Ex {X : ra_X} (hts : ∀ w ∈ lw_tbl, w.before #[Value.ref b] s = true) (hgv : (Jvm.Cond.and given_1 narrow_1).before #[Value.ref b] s = true) (hA : ∀ a : Nat, a < s.heap.size → ¬ ra_A X a) (h1 : vk_S 1 [4] [[107, 103, 102, 108]] (fun _ => X.2.2.2.1) (fun _ => X.2.2.2.2) (ra_A X) s s.heap) (h2 : (Term.string "RoofAcross$Village" 94).eval #[Value.ref b] s none [] s = some (.ref X.2.2.2.1)) : ra_Ex X s s.heap := by
  have hs := flat_of_before _ hgv
  exact ⟨st_NWa hts, vk_R.of (hts _ lt_str) h2, h1, va_Zof (hts _ lt_cs) (hts _ lt_js) (va_eqi (hs _ (by decide +kernel))) hA⟩
end START
set_option maxHeartbeats 2000000 in
theorem whole_start {p : Program} {e : Env} {s : State} {m : MethodId} {below : List Frame} {meth : Method} {c : Code} (l : Launch) (hflags : l.flags = flags0) {b L : Nat} {xs : Nat → Int32} (hL : L ≤ 3072) (C0 : lw_At p s m meth c b L xs) : W p l e room_1 s m #[Value.ref b] below meth c s.heap [] 0 0 (lw_Z below #[Value.ref b] s) (entryFrame m ([Value.ref b] : List Value).toArray 4) := by
  obtain ⟨hx, hb, hr, hml, hown, hts, hX, hbl, hlk, hgv⟩ := C0
  have htw : ∀ w ∈ ra_WS, w.before #[Value.ref b] s = true := fun w hw => hts w (List.mem_filter.mp hw).1
  obtain ⟨D, kc, hK⟩ := kn_K htw (hts _ lt_rows) (hts _ lt_sheet)
  have F : rz_Fx D kc (fun q => s.heap.size ≤ q) p s m #[Value.ref b] c code 4 "RoofAcrossLaw" := ⟨hx, hb, hml, hown, htw, hK, hts _ lt_rows, va_AO.of (hts _ lt_sheet), st_NWz hts, fun q h => h⟩
  have hl := lv_entry [Value.ref b] (n := 4) (Nat.le_of_ble_eq_true rfl)
  rw [lg_entry_eq]
  generalize ((lg_sl [Value.ref b] ++ List.replicate (4 - (lg_sl [Value.ref b]).length) Slot.unset).toArray) = ls at hl ⊢
  have hl : lv_has ls 4 [(0, .ref b)] := hl
  have hP : va_P D ra_cl [] s.heap := fun k q hk => by simp at hk
  have hD : va_D (fun q => s.heap.size ≤ q) ([] : va_W) := ⟨fun i j p q hi => by simp at hi, fun k q hk => by simp at hk⟩
  have hS : va_S (fun q => s.heap.size ≤ q) s.heap s.heap [] := va_S.rf
  refine rz_new F cg_R (fs := [.null, .null, .null, .null, .null, .null, .null, .null, .null, .int 0]) (fun j hj => by have : j < 10 := hj; revert j; decide) cl_L_7 jn_Ri ji_Ri (Nat.le_of_ble_eq_true rfl) (Nat.le_of_ble_eq_true rfl) hP hD hS dl_0 (fun q0 H hP hD hS => ?_)
  refine W.widen (k := 1) (n := 10) (Nat.le_of_ble_eq_true rfl) (Nat.le_of_ble_eq_true rfl) ?_
  refine lv_dup hx hb dl_3 rfl ?_
  refine rz_callI (wr := []) (As := []) (rest := [.ref q0]) F (c_Ri kc q0) rfl jc_Ri ji_Ri ml_L_9 jm_Ri rfl ⟨by decide +kernel, by decide +kernel, by show _ = some 0; decide +kernel⟩ ⟨Nat.le_of_ble_eq_true rfl, Nat.le_of_ble_eq_true rfl⟩ ⟨Nat.le_of_ble_eq_true rfl, Nat.le_of_ble_eq_true rfl⟩ hP hD hS hl rfl (Nat.le_of_ble_eq_true rfl) dl_4 (fun u H locs hP hD hS => ?_)
  refine W.widen (k := 82) (n := 2022) (Nat.le_of_ble_eq_true rfl) (Nat.le_of_ble_eq_true rfl) ?_
  rw [List.nil_append] at hP hD
  refine lv_astore_n (lv' := [(1, .ref q0), (0, .ref b)]) hx hb dl_7 rfl hl (by decide) rfl (fun ls hl => ?_)
  refine rz_new F cg_N (fs := [.null, .null, .int 0, .null, .null, .null, .null, .int 0, .null, .null, .null, .null, .null, .null, .null, .null, .null, .null, .null, .null, .null, .null, .int 0, .null, .null, .null, .null, .null, .null, .null, .null, .null, .null, .int 0]) (fun j hj => by have : j < 34 := hj; revert j; decide) cl_L_10 jn_Ni ji_Ni (Nat.le_of_ble_eq_true rfl) (Nat.le_of_ble_eq_true rfl) hP hD hS dl_8 (fun q1 H hP hD hS => ?_)
  refine W.widen (k := 83) (n := 2056) (Nat.le_of_ble_eq_true rfl) (Nat.le_of_ble_eq_true rfl) ?_
  refine lv_dup hx hb dl_11 rfl ?_
  refine rz_callI (wr := w_Ri kc q0 u) (As := []) (rest := [.ref q1]) F (c_Ni kc q1) rfl jc_Ni ji_Ni ml_L_12 jm_Ni rfl ⟨by decide +kernel, by decide +kernel, by show _ = some 0; decide +kernel⟩ ⟨Nat.le_of_ble_eq_true rfl, Nat.le_of_ble_eq_true rfl⟩ ⟨Nat.le_of_ble_eq_true rfl, Nat.le_of_ble_eq_true rfl⟩ hP hD hS hl rfl (Nat.le_of_ble_eq_true rfl) dl_12 (fun v H locs hP hD hS => ?_)
  refine W.widen (k := 600000) (n := 7302250) (Nat.le_of_ble_eq_true rfl) (Nat.le_of_ble_eq_true rfl) ?_
  refine lv_astore_n (lv' := [(2, .ref q1), (1, .ref q0), (0, .ref b)]) hx hb dl_15 rfl hl (by decide) rfl (fun ls hl => ?_)
  refine lv_iconst (v := 0) hx hb dl_16 (by decide) ?_
  refine lv_istore_n (lv' := [(3, .int 0), (2, .ref q1), (1, .ref q0), (0, .ref b)]) hx hb dl_17 rfl hl (by decide) rfl (fun ls hl => ?_)
  refine va_forget (fun q hq => hS.2.2 q hq) ?_
  have hA0 : ∀ a : Nat, a < s.heap.size → ¬ ra_A (xX D kc q0 u q1 v (0, 0)) a := fun a ha h => absurd (xw_A hD a h) (Nat.not_le.mpr ha)
  obtain ⟨t, ht1, ht2⟩ := st_str hgv hA0
  have hA : ∀ q, ra_A (xX D kc q0 u q1 v t) q → s.heap.size ≤ q := xw_A hD
  have hEx : ra_Ex (xX D kc q0 u q1 v t) s s.heap := st_Ex hts hgv hA0 ht1 ht2
  have C : lw_C (xX D kc q0 u q1 v t) p s m c b L xs := ⟨⟨hx, hb, hml, hown, htw, hK, xw_inj hD, hEx, Nat.le_of_ble_eq_true rfl, Nat.le_of_ble_eq_true rfl⟩, hX, hbl, fun h => absurd (hA b h) (Nat.not_le.mpr hbl), hL⟩
  have hS1 : va_S (ra_A (xX D kc q0 u q1 v t)) s.heap H [] := ⟨hS.1, fun a h1 h2 => hS.2.1 a h1 (Nat.not_le.mpr h1), fun q hq => by simp at hq⟩
  exact lw_loop C hr hlk hA L 0 0 σ0 H [] ls (by omega) (by omega) (Nat.le_refl _) lj0 (xw_P hP) hS1 hl
