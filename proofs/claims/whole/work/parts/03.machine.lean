/-! A small machine over the fixed layout of cells: what is told of it is told of the JVM's frames (ra_At). -/
abbrev ra_St : Type := Nat → Nat → Int32
abbrev ra_K : Type := List Value → List Value → ra_St → Prop
abbrev ra_R : Type := Option Value → ra_St → Prop
abbrev ra_Sp : Type := List Value → ra_St → ra_R → Prop
/-- addresses of the cells; numbers of classes and slots; array classes; the text's cell and its bytes' -/
abbrev ra_X : Type := (Nat → Nat) × va_G × (Nat → ClassId) × (Nat × Nat)
def ra_su (σ : ra_St) (c : Nat) (f : Nat → Int32) : ra_St := fun k => if k = c then f else σ k
def ra_sw (σ : ra_St) (c i : Nat) (v : Int32) : ra_St := ra_su σ c (upd (σ c) i v)
def ra_tv (X : ra_X) : Value → Value
  | .ref a => .ref (X.1 a)
  | v => v
theorem ra_tv_cat (X : ra_X) (v : Value) : (ra_tv X v).category = v.category := by cases v <;> rfl
def ra_el (X : ra_X) (c : Nat) (f : Nat → Int32) : va_E := match ra_cls c with
  | 0 => .inl (X.2.2.1 0, ra_len c, .inl f)
  | 1 => .inl (X.2.2.1 1, ra_len c, .inl f)
  | 2 => .inl (X.2.2.1 2, ra_len c, .inr (.inr (.inr (.inr (fun j => some (X.1 (ra_tgt c j)))))))
  | 3 => .inl (X.2.2.1 3, ra_len c, .inr (.inr (.inr (.inr (fun j => some (X.1 (ra_tgt c j)))))))
  | n + 4 => .inr (n, (List.range (ra_nf n)).map (fun j => if ra_rf n j then .ref (X.1 (ra_tgt c j)) else .int (f j)))
def ra_wl (X : ra_X) (σ : ra_St) : va_W := (List.range ra_NC).map (fun c => (X.1 c, ra_el X c (σ c)))
def ra_tys (X : ra_X) : List (ClassId × FieldType) := [(X.2.2.1 0, .int), (X.2.2.1 1, .boolean), (X.2.2.1 2, .array .int), (X.2.2.1 3, .object "RoofAcross$Sheet")]
theorem ra_wl_get (X : ra_X) (σ : ra_St) {c : Nat} (h : c < ra_NC) : (ra_wl X σ)[c]? = some (X.1 c, ra_el X c (σ c)) := by
  unfold ra_wl
  rw [List.getElem?_map, List.getElem?_range h]
  rfl
theorem ra_su_self (σ : ra_St) (c : Nat) (f : Nat → Int32) : ra_su σ c f c = f := if_pos rfl
theorem ra_su_ne (σ : ra_St) {c k : Nat} (f : Nat → Int32) (h : k ≠ c) : ra_su σ c f k = σ k := if_neg h
theorem ra_wl_set (X : ra_X) (σ : ra_St) {c : Nat} (f : Nat → Int32) : (ra_wl X σ).set c (X.1 c, ra_el X c f) = ra_wl X (ra_su σ c f) := by
  apply List.ext_getElem?
  intro i
  by_cases hi : i < ra_NC
  · rw [List.getElem?_set, ra_wl_get X (ra_su σ c f) hi]
    by_cases hc : c = i
    · subst hc
      rw [if_pos rfl, ra_su_self, if_pos (by unfold ra_wl; simpa using hi)]
    · rw [if_neg hc, ra_su_ne _ _ (Ne.symm hc), ra_wl_get X _ hi]
  · rw [List.getElem?_eq_none (by unfold ra_wl; simpa using hi), List.getElem?_eq_none (by unfold ra_wl; simpa using hi)]
theorem ra_lt {c n : Nat} (h : ra_cls c = n) (hn : n ≠ 99) : c < ra_NC := by
  apply Classical.byContradiction
  intro hc
  apply hn
  rw [← h]
  unfold ra_cls
  rw [List.getD_eq_getElem?_getD, List.getElem?_eq_none (by show ra_clsL.length ≤ c; exact Nat.le_of_not_lt hc)]
  rfl
def ra_A (X : ra_X) : Nat → Prop := fun q => ∃ c, c < ra_NC ∧ q = X.1 c
def ra_inj (X : ra_X) : Prop := ∀ i j, i < ra_NC → j < ra_NC → X.1 i = X.1 j → i = j
theorem ra_wl_lt {X : ra_X} {σ : ra_St} {i : Nat} {q : Nat × va_E} (h : (ra_wl X σ)[i]? = some q) : i < ra_NC := by
  have h1 := (List.getElem?_eq_some_iff.mp h).1
  unfold ra_wl at h1
  simpa using h1
theorem ra_D {X : ra_X} (h : ra_inj X) (σ : ra_St) : va_D (ra_A X) (ra_wl X σ) := by
  refine ⟨fun i j p q hi hj e => ?_, fun k q hk => ?_⟩
  · have li := ra_wl_lt hi
    have lj := ra_wl_lt hj
    rw [ra_wl_get X σ li] at hi
    rw [ra_wl_get X σ lj] at hj
    cases hi
    cases hj
    exact h i j li lj e
  · have lk := ra_wl_lt hk
    rw [ra_wl_get X σ lk] at hk
    cases hk
    exact ⟨k, lk, rfl⟩
/-- the words of nest mates, and the text constant -/
def ra_NW : List Cond := [.methodLinkNest "RoofAcross$Course" 50 ⟨"RoofAcross", "has", "(II)Z"⟩ "RoofAcross", .methodLinkNest "RoofAcross$Exchange" 86 ⟨"RoofAcross", "has", "(II)Z"⟩ "RoofAcross", .methodLinkNest "RoofAcross$Knowledge" 76 ⟨"RoofAcross", "has", "(II)Z"⟩ "RoofAcross", .methodLinkNest "RoofAcross$Moods" 92 ⟨"RoofAcross", "has", "(II)Z"⟩ "RoofAcross", .methodLinkNest "RoofAcross$Village" 108 ⟨"RoofAcross", "has", "(II)Z"⟩ "RoofAcross", .methodLinkNest "RoofAcross$Sheet" 26 ⟨"RoofAcross", "isOutside", "(III)Z"⟩ "RoofAcross", .methodLinkNest "RoofAcross$Village" 104 ⟨"RoofAcross", "isOutside", "(III)Z"⟩ "RoofAcross", .methodLinkNest "RoofAcross$Weather" 19 ⟨"RoofAcross", "isOutside", "(III)Z"⟩ "RoofAcross"]
def ra_Ex (X : ra_X) (U : State) (H : Heap) : Prop := (∀ w ∈ ra_NW, va_Nw w U) ∧ vk_R "RoofAcross$Village" 94 "kgfl" X.2.2.2.1 U ∧ vk_S 1 [4] [[107, 103, 102, 108]] (fun _ => X.2.2.2.1) (fun _ => X.2.2.2.2) (ra_A X) U H ∧ va_Z "java/lang/String" "COMPACT_STRINGS" "Z" (.int 1) (ra_A X) U H
theorem ra_Nw_warm {s U : State} (hW : s.WarmedH U.vm) : ∀ w ∈ ra_NW, va_Nw w s → va_Nw w U := by
  intro w hw h
  simp only [ra_NW, List.mem_cons, List.not_mem_nil, or_false] at hw
  rcases hw with rfl | rfl | rfl | rfl | rfl | rfl | rfl | rfl <;> exact va_Nw.warmM hW h
theorem ra_Nw_same {s U : State} (hv : s.vm = U.vm) : ∀ w ∈ ra_NW, va_Nw w s → va_Nw w U := by
  intro w hw h
  simp only [ra_NW, List.mem_cons, List.not_mem_nil, or_false] at hw
  rcases hw with rfl | rfl | rfl | rfl | rfl | rfl | rfl | rfl <;> exact va_Nw.same rfl hv h
theorem ra_Ex.moved {X : ra_X} {s U : State} {H H1 : Heap} (h : ra_Ex X s H) (hW : s.WarmedH U.vm) (hq : ∀ a : Nat, a < H.size → ¬ ra_A X a → H1[a]? = H[a]?) : ra_Ex X U H1 :=
  ⟨fun w hw => ra_Nw_warm hW w hw (h.1 w hw), h.2.1.warm hW, (h.2.2.1.moved hW.alike).kept hq, (va_Z.moved hW.alike h.2.2.2).kept hq⟩
theorem ra_Ex.same {X : ra_X} {s U : State} {H : Heap} (h : ra_Ex X s H) (hv : s.vm = U.vm) : ra_Ex X U H :=
  ⟨fun w hw => ra_Nw_same hv w hw (h.1 w hw), vk_R.same hv.symm h.2.1, vk_S.moved (by rw [hv]; exact Vm.Alike.refl _) h.2.2.1, va_Z.moved (by rw [hv]; exact Vm.Alike.refl _) h.2.2.2⟩
/-- the world -/
def ra_Wo (X : ra_X) (σ : ra_St) (U : State) : Prop := va_P X.2.1 ra_cl (ra_wl X σ) U.heap ∧ va_K X.2.1 ra_cl (ra_tys X) U ∧ ra_inj X ∧ ra_Ex X U U.heap
/-- how a method ends -/
def ra_Qc (X : ra_X) (R : ra_R) : Array Value → State → Outcome → State → Prop := fun _ st o t => (∃ (r : Option Value) (σ : ra_St), o = .returned (r.map (ra_tv X)) ∧ R r σ ∧ va_P X.2.1 ra_cl (ra_wl X σ) t.heap) ∧ va_F (ra_A X) st t
def ra_c1 : List Value → Bool
  | [] => true
  | .int _ :: l => ra_c1 l
  | .ref _ :: l => ra_c1 l
  | _ :: _ => false
/-- a method: its name, code, number of locals, kind of answer, room, number of arguments with the object -/
abbrev ra_MI : Type := MethodName × ByteArray × Nat × Option FieldType × Room × Nat
def ra_MOK (l : Launch) (X : ra_X) (y : ra_MI) (sp : ra_Sp) : Prop := ∀ (as : List Value) (σ : ra_St) (R : ra_R), ra_c1 as = true → as.length = y.2.2.2.2.2 → sp as σ R → Met l y.1 (.code y.1 y.2.1 y.2.2.1 y.2.2.2.1 :: ra_WS) y.2.2.2.2.1 (va_Pc (as.map (ra_tv X)) (ra_Wo X σ)) (ra_Qc X R) 0 0 (ra_A X)
/-- locals as told -/
def ra_lst (X : ra_X) (L : List Value) : List (Nat × Value) := L.zipIdx.filterMap (fun q => if q.1 = .null then none else some (q.2, ra_tv X q.1))
theorem ra_lst_mem {X : ra_X} {L : List Value} {q : Nat × Value} : q ∈ ra_lst X L ↔ ∃ v, L[q.1]? = some v ∧ v ≠ .null ∧ q.2 = ra_tv X v := by
  unfold ra_lst
  rw [List.mem_filterMap]
  constructor
  · rintro ⟨⟨v, i⟩, hm, h⟩
    have hi := List.mem_zipIdx_iff_getElem?.mp hm
    dsimp only at h hi
    split at h
    · cases h
    · next hn =>
      cases h
      exact ⟨v, hi, hn, rfl⟩
  · rintro ⟨v, h1, h2, h3⟩
    refine ⟨(v, q.1), List.mem_zipIdx_iff_getElem?.mpr h1, ?_⟩
    dsimp only
    rw [if_neg h2, ← h3]
theorem ra_loc {X : ra_X} {L : List Value} {ls : Array Slot} {nL i : Nat} {v : Value} (hl : lv_has ls nL (ra_lst X L)) (h : L[i]? = some v) (hn : v ≠ .null) : ls[i]? = some (.val (ra_tv X v)) :=
  hl.2.2 (i, ra_tv X v) (ra_lst_mem.mpr ⟨v, h, hn, rfl⟩)
theorem ra_less {X : ra_X} {L : List Value} {ls : Array Slot} {nL : Nat} {l : List (Nat × Value)} (hl : lv_has ls nL l) (h : ∀ q ∈ ra_lst X L, q ∈ l) : lv_has ls nL (ra_lst X L) := ⟨hl.1, hl.2.1, fun q hq => hl.2.2 q (h q hq)⟩
/-- the cell ahead holds no long -/
def ra_nl (L : List Value) : Nat → Bool
  | 0 => true
  | i + 1 => match L[i]? with
    | some (.long _) => false
    | some (.double _) => false
    | _ => true
theorem ra_nl_cat {L : List Value} {i : Nat} (h : ra_nl L (i + 1) = true) {v : Value} (hv : L[i]? = some v) : v.category = 1 := by
  simp only [ra_nl, hv] at h
  cases v <;> first | rfl | cases h
theorem ra_st1 {X : ra_X} {L : List Value} {i : Nat} {v : Value} (hn : ra_nl L i = true) : ∀ q ∈ ra_lst X (L.set i v), q ∈ (i, ra_tv X v) :: (ra_lst X L).filter (fun q => !(q.1 == i) && !(q.1 + 1 == i && q.2.category == 2)) := by
  intro q hq
  obtain ⟨w, h1, h2, h3⟩ := ra_lst_mem.mp hq
  rw [List.getElem?_set] at h1
  by_cases hi : i = q.1
  · rw [if_pos hi] at h1
    split at h1
    · cases h1
      exact List.mem_cons.mpr (Or.inl (Prod.ext hi.symm h3))
    · cases h1
  · rw [if_neg hi] at h1
    refine List.mem_cons_of_mem _ (List.mem_filter.mpr ⟨ra_lst_mem.mpr ⟨w, h1, h2, h3⟩, ?_⟩)
    have e1 : (q.1 == i) = false := by simpa using fun h => hi h.symm
    rw [e1]
    by_cases h4 : q.1 + 1 = i
    · have h5 : q.2.category = 1 := by
        rw [h3, ra_tv_cat]
        exact ra_nl_cat (L := L) (by rw [h4]; exact hn) h1
      rw [h5]
      simp
    · have e2 : (q.1 + 1 == i) = false := by simpa using h4
      rw [e2]
      rfl
theorem ra_st2 {X : ra_X} {L : List Value} {i : Nat} {v : Value} (hn : ra_nl L i = true) : ∀ q ∈ ra_lst X ((L.set i v).set (i + 1) .null), q ∈ (i, ra_tv X v) :: (ra_lst X L).filter (fun q => !(q.1 == i) && (!(q.1 == i + 1) && !(q.1 + 1 == i && q.2.category == 2))) := by
  intro q hq
  obtain ⟨w, h1, h2, h3⟩ := ra_lst_mem.mp hq
  rw [List.getElem?_set, List.getElem?_set] at h1
  by_cases h0 : i + 1 = q.1
  · rw [if_pos h0] at h1
    split at h1
    · cases h1
      exact absurd rfl h2
    · cases h1
  rw [if_neg h0] at h1
  by_cases hi : i = q.1
  · rw [if_pos hi] at h1
    split at h1
    · cases h1
      exact List.mem_cons.mpr (Or.inl (Prod.ext hi.symm h3))
    · cases h1
  · rw [if_neg hi] at h1
    refine List.mem_cons_of_mem _ (List.mem_filter.mpr ⟨ra_lst_mem.mpr ⟨w, h1, h2, h3⟩, ?_⟩)
    have e1 : (q.1 == i) = false := by simpa using fun h => hi h.symm
    have e0 : (q.1 == i + 1) = false := by simpa using fun h => h0 h.symm
    rw [e1, e0]
    by_cases h4 : q.1 + 1 = i
    · have h5 : q.2.category = 1 := by
        rw [h3, ra_tv_cat]
        exact ra_nl_cat (L := L) (by rw [h4]; exact hn) h1
      rw [h5]
      simp
    · have e2 : (q.1 + 1 == i) = false := by simpa using h4
      rw [e2]
      rfl
def ra_pad : Nat → List Value → List Value
  | 0, l => l
  | n + 1, a :: l => a :: ra_pad n l
  | n + 1, [] => .null :: ra_pad n []
theorem ra_pad_get : ∀ (n : Nat) (l : List Value) (i : Nat) (v : Value), (ra_pad n l)[i]? = some v → v ≠ .null → l[i]? = some v
  | 0, l, i, v, h, _ => h
  | n + 1, a :: l, 0, v, h, _ => h
  | n + 1, a :: l, i + 1, v, h, hn => by
    rw [List.getElem?_cons_succ]
    exact ra_pad_get n l i v (by rw [ra_pad, List.getElem?_cons_succ] at h; exact h) hn
  | n + 1, [], 0, v, h, hn => by
    rw [ra_pad, List.getElem?_cons_zero] at h
    exact absurd (Option.some.inj h).symm hn
  | n + 1, [], i + 1, v, h, hn => by
    have h1 := ra_pad_get n [] i v (by rw [ra_pad, List.getElem?_cons_succ] at h; exact h) hn
    simp at h1
theorem ra_args {X : ra_X} : ∀ (l : List Value) (k i : Nat) (v : Value), ra_c1 l = true → l[i]? = some v → (k + i, ra_tv X v) ∈ lv_args k (l.map (ra_tv X))
  | [], _, _, _, _, h => by simp at h
  | a :: l, k, i, v, hc, h => by
    have h1 : ra_c1 l = true ∧ (ra_tv X a).category = 1 := by
      cases a <;> first | exact ⟨hc, rfl⟩ | cases hc
    rw [List.map_cons, lv_args, if_neg (by rw [h1.2]; decide)]
    cases i with
    | zero =>
      rw [List.getElem?_cons_zero] at h
      cases h
      exact List.mem_cons_self
    | succ i =>
      rw [List.getElem?_cons_succ] at h
      have h2 := ra_args (X := X) l (k + 1) i v h1.1 h
      rw [show k + (i + 1) = k + 1 + i by omega]
      exact List.mem_cons_of_mem _ h2
theorem ra_sl_len {X : ra_X} : ∀ l : List Value, ra_c1 l = true → (lg_sl (l.map (ra_tv X))).length = l.length
  | [], _ => rfl
  | a :: l, hc => by
    have h1 : ra_c1 l = true ∧ (ra_tv X a).category = 1 := by
      cases a <;> first | exact ⟨hc, rfl⟩ | cases hc
    have h2 := ra_sl_len (X := X) l h1.1
    unfold lg_sl at h2 ⊢
    rw [List.map_cons, List.flatMap_cons, if_neg (by rw [h1.2]; decide), List.length_append, h2]
    simp
    omega
