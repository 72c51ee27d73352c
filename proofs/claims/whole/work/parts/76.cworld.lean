/-! the made cells are the layout -/
set_option maxRecDepth 100000 in
def xa (h0 : Nat) (u : Nat → Nat → Nat) (h1 : Nat) (v : Nat → Nat) : List Nat := [h0, (u 0 0), (u 1 0), (u 1 1), (u 1 2), (u 1 3), (u 1 4), (u 1 5), (u 1 6), (u 1 7), (u 1 8), (u 1 9), (u 0 1), (u 2 0), (u 0 2), (u 3 0), (u 3 1), (u 3 2), (u 3 3), (u 3 4), (u 3 5), (u 3 6), (u 3 7), (u 3 8), (u 3 9), (u 3 10), (u 3 11), (u 3 12), (u 0 3), (u 4 0), (u 4 1), (u 4 2), (u 4 3), (u 4 4), (u 4 5), (u 4 6), (u 4 7), (u 4 8), (u 4 9), (u 4 10), (u 4 11), (u 0 4), (u 5 0), (u 5 1), (u 5 2), (u 5 3), (u 5 4), (u 5 5), (u 5 6), (u 5 7), (u 5 8), (u 5 9), (u 5 10), (u 5 11), (u 0 5), (u 6 0), (u 6 1), (u 6 2), (u 6 3), (u 6 4), (u 6 5), (u 6 6), (u 6 7), (u 6 8), (u 6 9), (u 6 10), (u 6 11), (u 6 12), (u 6 13), (u 6 14), (u 0 6), (u 7 0), (u 0 7), (u 0 8), (u 0 9), (u 8 0), (u 0 10), (u 9 0), (u 0 11), (u 10 0), (u 0 12), (u 11 0), h1, (v 0), (v 1), (v 2), (v 3), (v 4), (v 5), (v 6), (v 7), (v 8), (v 9), (v 10), (v 11), (v 12), (v 13), (v 14), (v 15), (v 16), (v 17), (v 18), (v 19), (v 20), (v 21), (v 22), (v 23), (v 24), (v 25), (v 26), (v 27), (v 28), (v 29)]
set_option maxRecDepth 100000 in
def x0 : List (Nat → Int32) := [(fun j => [0, 0, 0, 0, 0, 0, 0, 0, 0, 0].getD j 0), (fun j => [0, 0, 0, 0, 0, 0, 0, 0, 0, (-1), (-1), 0].getD j 0), (fun j => [0, 40, 0].getD j 0), (fun _ => 0), (fun j => [0, 10, 0].getD j 0), (fun _ => 0), (fun _ => 0), (fun _ => 0), (fun _ => 0), (fun _ => 0), (fun _ => 0), (fun _ => 0), (fun j => [0, 0, 1, 0, 0].getD j 0), (fun _ => 0), (fun j => [0, 0, 0, 0, (-1)].getD j 0), (fun j => [0, 0, 0, 0, 0, 0, 0, 0, 0, 0, 0].getD j 0), (fun _ => 0), (fun _ => 0), (fun _ => 0), (fun _ => 0), (fun _ => 0), (fun _ => 0), (fun _ => 0), (fun _ => 0), (fun _ => 0), (fun _ => 0), (fun _ => 0), (fun _ => 0), (fun j => [0, 0, 0, 0, 0, 0, 0, (-1)].getD j 0), (fun j => [0, 0, 0, 0, 0, 0, 0, 0, 0, 0, 0].getD j 0), (fun _ => 0), (fun _ => 0), (fun _ => 0), (fun _ => 0), (fun _ => 0), (fun _ => 0), (fun _ => 0), (fun _ => 0), (fun _ => 0), (fun _ => 0), (fun _ => 0), (fun j => [0, 0, 0, 0, 0, 0, 0, 0, 0, (-1), (-1)].getD j 0), (fun _ => 0), (fun _ => 0), (fun _ => 0), (fun _ => 0), (fun _ => 0), (fun _ => 0), (fun _ => 0), (fun _ => 0), (fun _ => 0), (fun _ => 0), (fun _ => 0), (fun _ => 0), (fun j => [0, 0, 0, 0, 0, 0, 0, 0, 0, 0, 0, (-1)].getD j 0), (fun _ => 0), (fun _ => 0), (fun _ => 0), (fun _ => 0), (fun _ => 0), (fun _ => 0), (fun _ => 0), (fun _ => 0), (fun _ => 0), (fun _ => 0), (fun _ => 0), (fun _ => 0), (fun _ => 0), (fun _ => 0), (fun _ => 0), (fun j => [0, 0, 0].getD j 0), (fun _ => 0), (upd (upd (upd (upd (upd (upd (upd (upd (fun _ => 0) 0 (-1)) 1 (-1)) 2 (-1)) 3 (-1)) 4 (-1)) 5 (-1)) 6 (-1)) 7 (-1)), (fun _ => 0), (fun j => [0, 1, 0, 0].getD j 0), (fun _ => 0), (fun j => [0, 1, 0, 0].getD j 0), (fun _ => 0), (fun j => [0, 1, 0, 0].getD j 0), (fun _ => 0), (fun j => [0, 1, 0, 0].getD j 0), (fun _ => 0), (fun j => [0, 0, 0, 0, 0, 0, 0, 0, 0, 0, 0, 0, 0, 0, 0, 0, 0, 0, 0, 0, 0, 0, 0, 0, 0, 0, 0, 0, 0, 0, 0, 0, 0, 0].getD j 0), (fun _ => 0), (fun _ => 0), (fun _ => 0), (fun _ => 0), (fun _ => 0), (fun _ => 0), (fun _ => 0), (upd (fun _ => 0) 0 1), (upd (upd (upd (upd (upd (upd (upd (upd (fun _ => 0) 0 (-1)) 1 (-1)) 2 (-1)) 3 (-1)) 4 (-1)) 5 (-1)) 6 (-1)) 7 (-1)), (fun _ => 0), (fun _ => 0), (fun _ => 0), (fun _ => 0), (fun _ => 0), (fun _ => 0), (fun _ => 0), (fun _ => 0), (fun _ => 0), (fun _ => 0), (fun _ => 0), (fun _ => 0), (fun _ => 0), (fun _ => 0), (fun _ => 0), (fun _ => 0), (fun _ => 0), (fun _ => 0), (fun _ => 0), (fun _ => 0), (fun _ => 0)]
def σ0 : ra_St := fun c => x0.getD c (fun _ => 0)
set_option maxRecDepth 100000 in
def xw (kc : Nat → ClassId) (h0 : Nat) (u : Nat → Nat → Nat) (h1 : Nat) (v : Nat → Nat) : va_W := [(h0, .inr (0, [.ref (u 0 0), .ref (u 0 1), .ref (u 0 2), .ref (u 0 3), .ref (u 0 4), .ref (u 0 5), .ref (u 0 6), .ref (u 0 7), .ref (u 0 8), .int 0])), ((u 0 0), .inr (1, [.ref (u 1 0), .ref (u 1 2), .ref (u 1 4), .ref (u 1 5), .ref (u 1 6), .ref (u 1 7), .ref (u 1 8), .ref (u 1 9), .int 0, .int (-1), .int (-1), .int 0])), ((u 1 0), .inr (2, [.ref (u 1 1), .int 40, .int 0])), ((u 1 1), .inl (kc 0, 40, .inl (fun _ => 0))), ((u 1 2), .inr (2, [.ref (u 1 3), .int 10, .int 0])), ((u 1 3), .inl (kc 0, 40, .inl (fun _ => 0))), ((u 1 4), .inl (kc 0, 8, .inl (fun _ => 0))), ((u 1 5), .inl (kc 0, 8, .inl (fun _ => 0))), ((u 1 6), .inl (kc 0, 8, .inl (fun _ => 0))), ((u 1 7), .inl (kc 0, 8, .inl (fun _ => 0))), ((u 1 8), .inl (kc 0, 8, .inl (fun _ => 0))), ((u 1 9), .inl (kc 0, 8, .inl (fun _ => 0))), ((u 0 1), .inr (3, [.ref (u 2 0), .int 0, .int 1, .int 0, .int 0])), ((u 2 0), .inl (kc 0, 12, .inl (fun _ => 0))), ((u 0 2), .inr (5, [.ref (u 0 0), .ref (u 0 1), .ref (u 3 0), .ref (u 3 8), .int (-1)])), ((u 3 0), .inr (4, [.ref (u 0 0), .ref (u 0 1), .ref (u 3 1), .ref (u 3 2), .ref (u 3 3), .ref (u 3 4), .ref (u 3 5), .ref (u 3 6), .ref (u 3 7), .int 0, .int 0])), ((u 3 1), .inl (kc 0, 8, .inl (fun _ => 0))), ((u 3 2), .inl (kc 0, 8, .inl (fun _ => 0))), ((u 3 3), .inl (kc 0, 8, .inl (fun _ => 0))), ((u 3 4), .inl (kc 0, 8, .inl (fun _ => 0))), ((u 3 5), .inl (kc 0, 8, .inl (fun _ => 0))), ((u 3 6), .inl (kc 0, 8, .inl (fun _ => 0))), ((u 3 7), .inl (kc 0, 8, .inl (fun _ => 0))), ((u 3 8), .inl (kc 2, 4, .inr (.inr (.inr (.inr (fun i => if i < 4 then some (u 3 (9 + i)) else none)))))), ((u 3 9), .inl (kc 0, 104, .inl (fun _ => 0))), ((u 3 10), .inl (kc 0, 104, .inl (fun _ => 0))), ((u 3 11), .inl (kc 0, 104, .inl (fun _ => 0))), ((u 3 12), .inl (kc 0, 104, .inl (fun _ => 0))), ((u 0 3), .inr (6, [.ref (u 0 0), .ref (u 0 1), .ref (u 4 0), .ref (u 4 8), .ref (u 4 9), .ref (u 4 10), .ref (u 4 11), .int (-1)])), ((u 4 0), .inr (4, [.ref (u 0 0), .ref (u 0 1), .ref (u 4 1), .ref (u 4 2), .ref (u 4 3), .ref (u 4 4), .ref (u 4 5), .ref (u 4 6), .ref (u 4 7), .int 0, .int 0])), ((u 4 1), .inl (kc 0, 8, .inl (fun _ => 0))), ((u 4 2), .inl (kc 0, 8, .inl (fun _ => 0))), ((u 4 3), .inl (kc 0, 8, .inl (fun _ => 0))), ((u 4 4), .inl (kc 0, 8, .inl (fun _ => 0))), ((u 4 5), .inl (kc 0, 8, .inl (fun _ => 0))), ((u 4 6), .inl (kc 0, 8, .inl (fun _ => 0))), ((u 4 7), .inl (kc 0, 8, .inl (fun _ => 0))), ((u 4 8), .inl (kc 0, 8, .inl (fun _ => 0))), ((u 4 9), .inl (kc 0, 8, .inl (fun _ => 0))), ((u 4 10), .inl (kc 0, 8, .inl (fun _ => 0))), ((u 4 11), .inl (kc 0, 32, .inl (fun _ => 0))), ((u 0 4), .inr (7, [.ref (u 0 0), .ref (u 5 0), .ref (u 5 9), .ref (u 5 10), .ref (u 5 11), .int 0, .int 0, .int 0, .int 0, .int (-1), .int (-1)])), ((u 5 0), .inl (kc 2, 8, .inr (.inr (.inr (.inr (fun i => if i < 8 then some (u 5 (1 + i)) else none)))))), ((u 5 1), .inl (kc 0, 8, .inl (fun _ => 0))), ((u 5 2), .inl (kc 0, 8, .inl (fun _ => 0))), ((u 5 3), .inl (kc 0, 8, .inl (fun _ => 0))), ((u 5 4), .inl (kc 0, 8, .inl (fun _ => 0))), ((u 5 5), .inl (kc 0, 8, .inl (fun _ => 0))), ((u 5 6), .inl (kc 0, 8, .inl (fun _ => 0))), ((u 5 7), .inl (kc 0, 8, .inl (fun _ => 0))), ((u 5 8), .inl (kc 0, 8, .inl (fun _ => 0))), ((u 5 9), .inl (kc 0, 8, .inl (fun _ => 0))), ((u 5 10), .inl (kc 0, 8, .inl (fun _ => 0))), ((u 5 11), .inl (kc 0, 256, .inl (fun _ => 0))), ((u 0 5), .inr (8, [.ref (u 0 0), .ref (u 6 0), .ref (u 6 1), .ref (u 6 2), .ref (u 6 3), .ref (u 6 4), .ref (u 6 5), .ref (u 6 6), .int 0, .int 0, .int 0, .int (-1)])), ((u 6 0), .inl (kc 0, 12, .inl (fun _ => 0))), ((u 6 1), .inl (kc 0, 12, .inl (fun _ => 0))), ((u 6 2), .inl (kc 0, 12, .inl (fun _ => 0))), ((u 6 3), .inl (kc 0, 8, .inl (fun _ => 0))), ((u 6 4), .inl (kc 0, 256, .inl (fun _ => 0))), ((u 6 5), .inl (kc 0, 256, .inl (fun _ => 0))), ((u 6 6), .inl (kc 2, 8, .inr (.inr (.inr (.inr (fun i => if i < 8 then some (u 6 (7 + i)) else none)))))), ((u 6 7), .inl (kc 0, 8, .inl (fun _ => 0))), ((u 6 8), .inl (kc 0, 8, .inl (fun _ => 0))), ((u 6 9), .inl (kc 0, 8, .inl (fun _ => 0))), ((u 6 10), .inl (kc 0, 8, .inl (fun _ => 0))), ((u 6 11), .inl (kc 0, 8, .inl (fun _ => 0))), ((u 6 12), .inl (kc 0, 8, .inl (fun _ => 0))), ((u 6 13), .inl (kc 0, 8, .inl (fun _ => 0))), ((u 6 14), .inl (kc 0, 8, .inl (fun _ => 0))), ((u 0 6), .inr (9, [.ref (u 0 0), .ref (u 0 1), .ref (u 7 0)])), ((u 7 0), .inl (kc 0, 8, .inl (fun _ => 0))), ((u 0 7), .inl (kc 0, 8, .inl (upd (upd (upd (upd (upd (upd (upd (upd (fun _ => 0) 0 (-1)) 1 (-1)) 2 (-1)) 3 (-1)) 4 (-1)) 5 (-1)) 6 (-1)) 7 (-1)))), ((u 0 8), .inl (kc 3, 4, .inr (.inr (.inr (.inr (va_up (va_up (va_up (va_up (fun _ => none) 0 (some (u 0 9))) 1 (some (u 0 10))) 2 (some (u 0 11))) 3 (some (u 0 12)))))))), ((u 0 9), .inr (10, [.ref (u 8 0), .int 1, .int 0, .int 0])), ((u 8 0), .inl (kc 0, 48, .inl (fun _ => 0))), ((u 0 10), .inr (10, [.ref (u 9 0), .int 1, .int 0, .int 0])), ((u 9 0), .inl (kc 0, 48, .inl (fun _ => 0))), ((u 0 11), .inr (10, [.ref (u 10 0), .int 1, .int 0, .int 0])), ((u 10 0), .inl (kc 0, 48, .inl (fun _ => 0))), ((u 0 12), .inr (10, [.ref (u 11 0), .int 1, .int 0, .int 0])), ((u 11 0), .inl (kc 0, 48, .inl (fun _ => 0))), (h1, .inr (11, [.ref (v 0), .ref (v 1), .int 0, .ref (v 2), .ref (v 3), .ref (v 4), .ref (v 5), .int 0, .ref (v 6), .ref (v 7), .ref (v 8), .ref (v 9), .ref (v 10), .ref (v 11), .ref (v 12), .ref (v 13), .ref (v 14), .ref (v 15), .ref (v 16), .ref (v 17), .ref (v 18), .ref (v 19), .int 0, .ref (v 20), .ref (v 21), .ref (v 22), .ref (v 23), .ref (v 24), .ref (v 25), .ref (v 26), .ref (v 27), .ref (v 28), .ref (v 29), .int 0])), ((v 0), .inl (kc 0, 2, .inl (fun _ => 0))), ((v 1), .inl (kc 0, 80, .inl (fun _ => 0))), ((v 2), .inl (kc 0, 9, .inl (fun _ => 0))), ((v 3), .inl (kc 0, 9, .inl (fun _ => 0))), ((v 4), .inl (kc 0, 9, .inl (fun _ => 0))), ((v 5), .inl (kc 0, 9, .inl (fun _ => 0))), ((v 6), .inl (kc 0, 12, .inl (fun _ => 0))), ((v 7), .inl (kc 0, 2, .inl (upd (fun _ => 0) 0 1))), ((v 8), .inl (kc 0, 8, .inl (upd (upd (upd (upd (upd (upd (upd (upd (fun _ => 0) 0 (-1)) 1 (-1)) 2 (-1)) 3 (-1)) 4 (-1)) 5 (-1)) 6 (-1)) 7 (-1)))), ((v 9), .inl (kc 0, 9, .inl (fun _ => 0))), ((v 10), .inl (kc 0, 9, .inl (fun _ => 0))), ((v 11), .inl (kc 0, 9, .inl (fun _ => 0))), ((v 12), .inl (kc 0, 9, .inl (fun _ => 0))), ((v 13), .inl (kc 0, 9, .inl (fun _ => 0))), ((v 14), .inl (kc 0, 9, .inl (fun _ => 0))), ((v 15), .inl (kc 0, 9, .inl (fun _ => 0))), ((v 16), .inl (kc 0, 9, .inl (fun _ => 0))), ((v 17), .inl (kc 0, 64, .inl (fun _ => 0))), ((v 18), .inl (kc 0, 9, .inl (fun _ => 0))), ((v 19), .inl (kc 0, 2304, .inl (fun _ => 0))), ((v 20), .inl (kc 0, 12, .inl (fun _ => 0))), ((v 21), .inl (kc 0, 12, .inl (fun _ => 0))), ((v 22), .inl (kc 0, 12, .inl (fun _ => 0))), ((v 23), .inl (kc 0, 9, .inl (fun _ => 0))), ((v 24), .inl (kc 0, 256, .inl (fun _ => 0))), ((v 25), .inl (kc 1, 4, .inl (fun _ => 0))), ((v 26), .inl (kc 0, 4, .inl (fun _ => 0))), ((v 27), .inl (kc 0, 4, .inl (fun _ => 0))), ((v 28), .inl (kc 0, 192, .inl (fun _ => 0))), ((v 29), .inl (kc 0, 48, .inl (fun _ => 0)))]
set_option maxHeartbeats 1000000 in
set_option maxRecDepth 100000 in
theorem xw_eq (kc : Nat → ClassId) (h0 : Nat) (u : Nat → Nat → Nat) (h1 : Nat) (v : Nat → Nat) : w_Ri kc h0 u ++ w_Ni kc h1 v = xw kc h0 u h1 v := rfl
def xX (D : va_G) (kc : Nat → ClassId) (h0 : Nat) (u : Nat → Nat → Nat) (h1 : Nat) (v : Nat → Nat) (t : Nat × Nat) : ra_X := (fun c => (xa h0 u h1 v).getD c 0, D, kc, t)
def xs_ok (X : ra_X) (ws : va_W) (c : Nat) : Prop := ∃ e : va_E, ws[c]? = some (X.1 c, e) ∧ (e = ra_el X c (σ0 c) ∨ ∃ (cA : ClassId) (n : Nat) (f g : Nat → Option Nat), e = .inl (cA, n, .inr (.inr (.inr (.inr f)))) ∧ ra_el X c (σ0 c) = .inl (cA, n, .inr (.inr (.inr (.inr g)))) ∧ ∀ i, i < n → f i = g i)
def xall : Nat → (Nat → Prop) → Prop
  | 0, _ => True
  | n + 1, P => xall n P ∧ P n
theorem xall_of : ∀ {n : Nat} {P : Nat → Prop}, xall n P → ∀ c, c < n → P c
  | 0, _, _, _, hc => absurd hc (Nat.not_lt_zero _)
  | n + 1, _, h, c, hc => by
    rcases Nat.lt_or_ge c n with q | q
    · exact xall_of h.1 c q
    · have e : c = n := by omega
      rw [e]
      exact h.2
section XW
variable {D : va_G} {kc : Nat → ClassId} {h0 : Nat} {u : Nat → Nat → Nat} {h1 : Nat} {v : Nat → Nat} {t : Nat × Nat}
set_option maxRecDepth 100000 in
theorem xp_0 : xs_ok (xX D kc h0 u h1 v t) (xw kc h0 u h1 v) 0 := ⟨_, rfl, Or.inl rfl⟩
set_option maxRecDepth 100000 in
theorem xp_1 : xs_ok (xX D kc h0 u h1 v t) (xw kc h0 u h1 v) 1 := ⟨_, rfl, Or.inl rfl⟩
set_option maxRecDepth 100000 in
theorem xp_2 : xs_ok (xX D kc h0 u h1 v t) (xw kc h0 u h1 v) 2 := ⟨_, rfl, Or.inl rfl⟩
set_option maxRecDepth 100000 in
theorem xp_3 : xs_ok (xX D kc h0 u h1 v t) (xw kc h0 u h1 v) 3 := ⟨_, rfl, Or.inl rfl⟩
set_option maxRecDepth 100000 in
theorem xp_4 : xs_ok (xX D kc h0 u h1 v t) (xw kc h0 u h1 v) 4 := ⟨_, rfl, Or.inl rfl⟩
set_option maxRecDepth 100000 in
theorem xp_5 : xs_ok (xX D kc h0 u h1 v t) (xw kc h0 u h1 v) 5 := ⟨_, rfl, Or.inl rfl⟩
set_option maxRecDepth 100000 in
theorem xp_6 : xs_ok (xX D kc h0 u h1 v t) (xw kc h0 u h1 v) 6 := ⟨_, rfl, Or.inl rfl⟩
set_option maxRecDepth 100000 in
theorem xp_7 : xs_ok (xX D kc h0 u h1 v t) (xw kc h0 u h1 v) 7 := ⟨_, rfl, Or.inl rfl⟩
set_option maxRecDepth 100000 in
theorem xp_8 : xs_ok (xX D kc h0 u h1 v t) (xw kc h0 u h1 v) 8 := ⟨_, rfl, Or.inl rfl⟩
set_option maxRecDepth 100000 in
theorem xp_9 : xs_ok (xX D kc h0 u h1 v t) (xw kc h0 u h1 v) 9 := ⟨_, rfl, Or.inl rfl⟩
set_option maxRecDepth 100000 in
theorem xp_10 : xs_ok (xX D kc h0 u h1 v t) (xw kc h0 u h1 v) 10 := ⟨_, rfl, Or.inl rfl⟩
set_option maxRecDepth 100000 in
theorem xp_11 : xs_ok (xX D kc h0 u h1 v t) (xw kc h0 u h1 v) 11 := ⟨_, rfl, Or.inl rfl⟩
set_option maxRecDepth 100000 in
theorem xp_12 : xs_ok (xX D kc h0 u h1 v t) (xw kc h0 u h1 v) 12 := ⟨_, rfl, Or.inl rfl⟩
set_option maxRecDepth 100000 in
theorem xp_13 : xs_ok (xX D kc h0 u h1 v t) (xw kc h0 u h1 v) 13 := ⟨_, rfl, Or.inl rfl⟩
set_option maxRecDepth 100000 in
theorem xp_14 : xs_ok (xX D kc h0 u h1 v t) (xw kc h0 u h1 v) 14 := ⟨_, rfl, Or.inl rfl⟩
set_option maxRecDepth 100000 in
theorem xp_15 : xs_ok (xX D kc h0 u h1 v t) (xw kc h0 u h1 v) 15 := ⟨_, rfl, Or.inl rfl⟩
set_option maxRecDepth 100000 in
theorem xp_16 : xs_ok (xX D kc h0 u h1 v t) (xw kc h0 u h1 v) 16 := ⟨_, rfl, Or.inl rfl⟩
set_option maxRecDepth 100000 in
theorem xp_17 : xs_ok (xX D kc h0 u h1 v t) (xw kc h0 u h1 v) 17 := ⟨_, rfl, Or.inl rfl⟩
set_option maxRecDepth 100000 in
theorem xp_18 : xs_ok (xX D kc h0 u h1 v t) (xw kc h0 u h1 v) 18 := ⟨_, rfl, Or.inl rfl⟩
set_option maxRecDepth 100000 in
theorem xp_19 : xs_ok (xX D kc h0 u h1 v t) (xw kc h0 u h1 v) 19 := ⟨_, rfl, Or.inl rfl⟩
set_option maxRecDepth 100000 in
theorem xp_20 : xs_ok (xX D kc h0 u h1 v t) (xw kc h0 u h1 v) 20 := ⟨_, rfl, Or.inl rfl⟩
set_option maxRecDepth 100000 in
theorem xp_21 : xs_ok (xX D kc h0 u h1 v t) (xw kc h0 u h1 v) 21 := ⟨_, rfl, Or.inl rfl⟩
set_option maxRecDepth 100000 in
theorem xp_22 : xs_ok (xX D kc h0 u h1 v t) (xw kc h0 u h1 v) 22 := ⟨_, rfl, Or.inl rfl⟩
set_option maxRecDepth 100000 in
theorem xp_23 : xs_ok (xX D kc h0 u h1 v t) (xw kc h0 u h1 v) 23 := ⟨_, rfl, Or.inr ⟨_, _, _, _, rfl, rfl, fun i hi => by rcases (show i = 0 ∨ i = 1 ∨ i = 2 ∨ i = 3 by omega) with rfl | rfl | rfl | rfl <;> rfl⟩⟩
set_option maxRecDepth 100000 in
theorem xp_24 : xs_ok (xX D kc h0 u h1 v t) (xw kc h0 u h1 v) 24 := ⟨_, rfl, Or.inl rfl⟩
set_option maxRecDepth 100000 in
theorem xp_25 : xs_ok (xX D kc h0 u h1 v t) (xw kc h0 u h1 v) 25 := ⟨_, rfl, Or.inl rfl⟩
set_option maxRecDepth 100000 in
theorem xp_26 : xs_ok (xX D kc h0 u h1 v t) (xw kc h0 u h1 v) 26 := ⟨_, rfl, Or.inl rfl⟩
set_option maxRecDepth 100000 in
theorem xp_27 : xs_ok (xX D kc h0 u h1 v t) (xw kc h0 u h1 v) 27 := ⟨_, rfl, Or.inl rfl⟩
set_option maxRecDepth 100000 in
theorem xp_28 : xs_ok (xX D kc h0 u h1 v t) (xw kc h0 u h1 v) 28 := ⟨_, rfl, Or.inl rfl⟩
set_option maxRecDepth 100000 in
theorem xp_29 : xs_ok (xX D kc h0 u h1 v t) (xw kc h0 u h1 v) 29 := ⟨_, rfl, Or.inl rfl⟩
set_option maxRecDepth 100000 in
theorem xp_30 : xs_ok (xX D kc h0 u h1 v t) (xw kc h0 u h1 v) 30 := ⟨_, rfl, Or.inl rfl⟩
set_option maxRecDepth 100000 in
theorem xp_31 : xs_ok (xX D kc h0 u h1 v t) (xw kc h0 u h1 v) 31 := ⟨_, rfl, Or.inl rfl⟩
set_option maxRecDepth 100000 in
theorem xp_32 : xs_ok (xX D kc h0 u h1 v t) (xw kc h0 u h1 v) 32 := ⟨_, rfl, Or.inl rfl⟩
set_option maxRecDepth 100000 in
theorem xp_33 : xs_ok (xX D kc h0 u h1 v t) (xw kc h0 u h1 v) 33 := ⟨_, rfl, Or.inl rfl⟩
set_option maxRecDepth 100000 in
theorem xp_34 : xs_ok (xX D kc h0 u h1 v t) (xw kc h0 u h1 v) 34 := ⟨_, rfl, Or.inl rfl⟩
set_option maxRecDepth 100000 in
theorem xp_35 : xs_ok (xX D kc h0 u h1 v t) (xw kc h0 u h1 v) 35 := ⟨_, rfl, Or.inl rfl⟩
set_option maxRecDepth 100000 in
theorem xp_36 : xs_ok (xX D kc h0 u h1 v t) (xw kc h0 u h1 v) 36 := ⟨_, rfl, Or.inl rfl⟩
set_option maxRecDepth 100000 in
theorem xp_37 : xs_ok (xX D kc h0 u h1 v t) (xw kc h0 u h1 v) 37 := ⟨_, rfl, Or.inl rfl⟩
set_option maxRecDepth 100000 in
theorem xp_38 : xs_ok (xX D kc h0 u h1 v t) (xw kc h0 u h1 v) 38 := ⟨_, rfl, Or.inl rfl⟩
set_option maxRecDepth 100000 in
theorem xp_39 : xs_ok (xX D kc h0 u h1 v t) (xw kc h0 u h1 v) 39 := ⟨_, rfl, Or.inl rfl⟩
set_option maxRecDepth 100000 in
theorem xp_40 : xs_ok (xX D kc h0 u h1 v t) (xw kc h0 u h1 v) 40 := ⟨_, rfl, Or.inl rfl⟩
set_option maxRecDepth 100000 in
theorem xp_41 : xs_ok (xX D kc h0 u h1 v t) (xw kc h0 u h1 v) 41 := ⟨_, rfl, Or.inl rfl⟩
set_option maxRecDepth 100000 in
theorem xp_42 : xs_ok (xX D kc h0 u h1 v t) (xw kc h0 u h1 v) 42 := ⟨_, rfl, Or.inr ⟨_, _, _, _, rfl, rfl, fun i hi => by rcases (show i = 0 ∨ i = 1 ∨ i = 2 ∨ i = 3 ∨ i = 4 ∨ i = 5 ∨ i = 6 ∨ i = 7 by omega) with rfl | rfl | rfl | rfl | rfl | rfl | rfl | rfl <;> rfl⟩⟩
set_option maxRecDepth 100000 in
theorem xp_43 : xs_ok (xX D kc h0 u h1 v t) (xw kc h0 u h1 v) 43 := ⟨_, rfl, Or.inl rfl⟩
set_option maxRecDepth 100000 in
theorem xp_44 : xs_ok (xX D kc h0 u h1 v t) (xw kc h0 u h1 v) 44 := ⟨_, rfl, Or.inl rfl⟩
set_option maxRecDepth 100000 in
theorem xp_45 : xs_ok (xX D kc h0 u h1 v t) (xw kc h0 u h1 v) 45 := ⟨_, rfl, Or.inl rfl⟩
set_option maxRecDepth 100000 in
theorem xp_46 : xs_ok (xX D kc h0 u h1 v t) (xw kc h0 u h1 v) 46 := ⟨_, rfl, Or.inl rfl⟩
set_option maxRecDepth 100000 in
theorem xp_47 : xs_ok (xX D kc h0 u h1 v t) (xw kc h0 u h1 v) 47 := ⟨_, rfl, Or.inl rfl⟩
set_option maxRecDepth 100000 in
theorem xp_48 : xs_ok (xX D kc h0 u h1 v t) (xw kc h0 u h1 v) 48 := ⟨_, rfl, Or.inl rfl⟩
set_option maxRecDepth 100000 in
theorem xp_49 : xs_ok (xX D kc h0 u h1 v t) (xw kc h0 u h1 v) 49 := ⟨_, rfl, Or.inl rfl⟩
set_option maxRecDepth 100000 in
theorem xp_50 : xs_ok (xX D kc h0 u h1 v t) (xw kc h0 u h1 v) 50 := ⟨_, rfl, Or.inl rfl⟩
set_option maxRecDepth 100000 in
theorem xp_51 : xs_ok (xX D kc h0 u h1 v t) (xw kc h0 u h1 v) 51 := ⟨_, rfl, Or.inl rfl⟩
set_option maxRecDepth 100000 in
theorem xp_52 : xs_ok (xX D kc h0 u h1 v t) (xw kc h0 u h1 v) 52 := ⟨_, rfl, Or.inl rfl⟩
set_option maxRecDepth 100000 in
theorem xp_53 : xs_ok (xX D kc h0 u h1 v t) (xw kc h0 u h1 v) 53 := ⟨_, rfl, Or.inl rfl⟩
set_option maxRecDepth 100000 in
theorem xp_54 : xs_ok (xX D kc h0 u h1 v t) (xw kc h0 u h1 v) 54 := ⟨_, rfl, Or.inl rfl⟩
set_option maxRecDepth 100000 in
theorem xp_55 : xs_ok (xX D kc h0 u h1 v t) (xw kc h0 u h1 v) 55 := ⟨_, rfl, Or.inl rfl⟩
set_option maxRecDepth 100000 in
theorem xp_56 : xs_ok (xX D kc h0 u h1 v t) (xw kc h0 u h1 v) 56 := ⟨_, rfl, Or.inl rfl⟩
set_option maxRecDepth 100000 in
theorem xp_57 : xs_ok (xX D kc h0 u h1 v t) (xw kc h0 u h1 v) 57 := ⟨_, rfl, Or.inl rfl⟩
set_option maxRecDepth 100000 in
theorem xp_58 : xs_ok (xX D kc h0 u h1 v t) (xw kc h0 u h1 v) 58 := ⟨_, rfl, Or.inl rfl⟩
set_option maxRecDepth 100000 in
theorem xp_59 : xs_ok (xX D kc h0 u h1 v t) (xw kc h0 u h1 v) 59 := ⟨_, rfl, Or.inl rfl⟩
set_option maxRecDepth 100000 in
theorem xp_60 : xs_ok (xX D kc h0 u h1 v t) (xw kc h0 u h1 v) 60 := ⟨_, rfl, Or.inl rfl⟩
set_option maxRecDepth 100000 in
theorem xp_61 : xs_ok (xX D kc h0 u h1 v t) (xw kc h0 u h1 v) 61 := ⟨_, rfl, Or.inr ⟨_, _, _, _, rfl, rfl, fun i hi => by rcases (show i = 0 ∨ i = 1 ∨ i = 2 ∨ i = 3 ∨ i = 4 ∨ i = 5 ∨ i = 6 ∨ i = 7 by omega) with rfl | rfl | rfl | rfl | rfl | rfl | rfl | rfl <;> rfl⟩⟩
set_option maxRecDepth 100000 in
theorem xp_62 : xs_ok (xX D kc h0 u h1 v t) (xw kc h0 u h1 v) 62 := ⟨_, rfl, Or.inl rfl⟩
set_option maxRecDepth 100000 in
theorem xp_63 : xs_ok (xX D kc h0 u h1 v t) (xw kc h0 u h1 v) 63 := ⟨_, rfl, Or.inl rfl⟩
set_option maxRecDepth 100000 in
theorem xp_64 : xs_ok (xX D kc h0 u h1 v t) (xw kc h0 u h1 v) 64 := ⟨_, rfl, Or.inl rfl⟩
set_option maxRecDepth 100000 in
theorem xp_65 : xs_ok (xX D kc h0 u h1 v t) (xw kc h0 u h1 v) 65 := ⟨_, rfl, Or.inl rfl⟩
set_option maxRecDepth 100000 in
theorem xp_66 : xs_ok (xX D kc h0 u h1 v t) (xw kc h0 u h1 v) 66 := ⟨_, rfl, Or.inl rfl⟩
set_option maxRecDepth 100000 in
theorem xp_67 : xs_ok (xX D kc h0 u h1 v t) (xw kc h0 u h1 v) 67 := ⟨_, rfl, Or.inl rfl⟩
set_option maxRecDepth 100000 in
theorem xp_68 : xs_ok (xX D kc h0 u h1 v t) (xw kc h0 u h1 v) 68 := ⟨_, rfl, Or.inl rfl⟩
set_option maxRecDepth 100000 in
theorem xp_69 : xs_ok (xX D kc h0 u h1 v t) (xw kc h0 u h1 v) 69 := ⟨_, rfl, Or.inl rfl⟩
set_option maxRecDepth 100000 in
theorem xp_70 : xs_ok (xX D kc h0 u h1 v t) (xw kc h0 u h1 v) 70 := ⟨_, rfl, Or.inl rfl⟩
set_option maxRecDepth 100000 in
theorem xp_71 : xs_ok (xX D kc h0 u h1 v t) (xw kc h0 u h1 v) 71 := ⟨_, rfl, Or.inl rfl⟩
set_option maxRecDepth 100000 in
theorem xp_72 : xs_ok (xX D kc h0 u h1 v t) (xw kc h0 u h1 v) 72 := ⟨_, rfl, Or.inl rfl⟩
set_option maxRecDepth 100000 in
theorem xp_73 : xs_ok (xX D kc h0 u h1 v t) (xw kc h0 u h1 v) 73 := ⟨_, rfl, Or.inr ⟨_, _, _, _, rfl, rfl, fun i hi => by rcases (show i = 0 ∨ i = 1 ∨ i = 2 ∨ i = 3 by omega) with rfl | rfl | rfl | rfl <;> rfl⟩⟩
set_option maxRecDepth 100000 in
theorem xp_74 : xs_ok (xX D kc h0 u h1 v t) (xw kc h0 u h1 v) 74 := ⟨_, rfl, Or.inl rfl⟩
set_option maxRecDepth 100000 in
theorem xp_75 : xs_ok (xX D kc h0 u h1 v t) (xw kc h0 u h1 v) 75 := ⟨_, rfl, Or.inl rfl⟩
set_option maxRecDepth 100000 in
theorem xp_76 : xs_ok (xX D kc h0 u h1 v t) (xw kc h0 u h1 v) 76 := ⟨_, rfl, Or.inl rfl⟩
set_option maxRecDepth 100000 in
theorem xp_77 : xs_ok (xX D kc h0 u h1 v t) (xw kc h0 u h1 v) 77 := ⟨_, rfl, Or.inl rfl⟩
set_option maxRecDepth 100000 in
theorem xp_78 : xs_ok (xX D kc h0 u h1 v t) (xw kc h0 u h1 v) 78 := ⟨_, rfl, Or.inl rfl⟩
set_option maxRecDepth 100000 in
theorem xp_79 : xs_ok (xX D kc h0 u h1 v t) (xw kc h0 u h1 v) 79 := ⟨_, rfl, Or.inl rfl⟩
set_option maxRecDepth 100000 in
theorem xp_80 : xs_ok (xX D kc h0 u h1 v t) (xw kc h0 u h1 v) 80 := ⟨_, rfl, Or.inl rfl⟩
set_option maxRecDepth 100000 in
theorem xp_81 : xs_ok (xX D kc h0 u h1 v t) (xw kc h0 u h1 v) 81 := ⟨_, rfl, Or.inl rfl⟩
set_option maxRecDepth 100000 in
theorem xp_82 : xs_ok (xX D kc h0 u h1 v t) (xw kc h0 u h1 v) 82 := ⟨_, rfl, Or.inl rfl⟩
set_option maxRecDepth 100000 in
theorem xp_83 : xs_ok (xX D kc h0 u h1 v t) (xw kc h0 u h1 v) 83 := ⟨_, rfl, Or.inl rfl⟩
set_option maxRecDepth 100000 in
theorem xp_84 : xs_ok (xX D kc h0 u h1 v t) (xw kc h0 u h1 v) 84 := ⟨_, rfl, Or.inl rfl⟩
set_option maxRecDepth 100000 in
theorem xp_85 : xs_ok (xX D kc h0 u h1 v t) (xw kc h0 u h1 v) 85 := ⟨_, rfl, Or.inl rfl⟩
set_option maxRecDepth 100000 in
theorem xp_86 : xs_ok (xX D kc h0 u h1 v t) (xw kc h0 u h1 v) 86 := ⟨_, rfl, Or.inl rfl⟩
set_option maxRecDepth 100000 in
theorem xp_87 : xs_ok (xX D kc h0 u h1 v t) (xw kc h0 u h1 v) 87 := ⟨_, rfl, Or.inl rfl⟩
set_option maxRecDepth 100000 in
theorem xp_88 : xs_ok (xX D kc h0 u h1 v t) (xw kc h0 u h1 v) 88 := ⟨_, rfl, Or.inl rfl⟩
set_option maxRecDepth 100000 in
theorem xp_89 : xs_ok (xX D kc h0 u h1 v t) (xw kc h0 u h1 v) 89 := ⟨_, rfl, Or.inl rfl⟩
set_option maxRecDepth 100000 in
theorem xp_90 : xs_ok (xX D kc h0 u h1 v t) (xw kc h0 u h1 v) 90 := ⟨_, rfl, Or.inl rfl⟩
set_option maxRecDepth 100000 in
theorem xp_91 : xs_ok (xX D kc h0 u h1 v t) (xw kc h0 u h1 v) 91 := ⟨_, rfl, Or.inl rfl⟩
set_option maxRecDepth 100000 in
theorem xp_92 : xs_ok (xX D kc h0 u h1 v t) (xw kc h0 u h1 v) 92 := ⟨_, rfl, Or.inl rfl⟩
set_option maxRecDepth 100000 in
theorem xp_93 : xs_ok (xX D kc h0 u h1 v t) (xw kc h0 u h1 v) 93 := ⟨_, rfl, Or.inl rfl⟩
set_option maxRecDepth 100000 in
theorem xp_94 : xs_ok (xX D kc h0 u h1 v t) (xw kc h0 u h1 v) 94 := ⟨_, rfl, Or.inl rfl⟩
set_option maxRecDepth 100000 in
theorem xp_95 : xs_ok (xX D kc h0 u h1 v t) (xw kc h0 u h1 v) 95 := ⟨_, rfl, Or.inl rfl⟩
set_option maxRecDepth 100000 in
theorem xp_96 : xs_ok (xX D kc h0 u h1 v t) (xw kc h0 u h1 v) 96 := ⟨_, rfl, Or.inl rfl⟩
set_option maxRecDepth 100000 in
theorem xp_97 : xs_ok (xX D kc h0 u h1 v t) (xw kc h0 u h1 v) 97 := ⟨_, rfl, Or.inl rfl⟩
set_option maxRecDepth 100000 in
theorem xp_98 : xs_ok (xX D kc h0 u h1 v t) (xw kc h0 u h1 v) 98 := ⟨_, rfl, Or.inl rfl⟩
set_option maxRecDepth 100000 in
theorem xp_99 : xs_ok (xX D kc h0 u h1 v t) (xw kc h0 u h1 v) 99 := ⟨_, rfl, Or.inl rfl⟩
set_option maxRecDepth 100000 in
theorem xp_100 : xs_ok (xX D kc h0 u h1 v t) (xw kc h0 u h1 v) 100 := ⟨_, rfl, Or.inl rfl⟩
set_option maxRecDepth 100000 in
theorem xp_101 : xs_ok (xX D kc h0 u h1 v t) (xw kc h0 u h1 v) 101 := ⟨_, rfl, Or.inl rfl⟩
set_option maxRecDepth 100000 in
theorem xp_102 : xs_ok (xX D kc h0 u h1 v t) (xw kc h0 u h1 v) 102 := ⟨_, rfl, Or.inl rfl⟩
set_option maxRecDepth 100000 in
theorem xp_103 : xs_ok (xX D kc h0 u h1 v t) (xw kc h0 u h1 v) 103 := ⟨_, rfl, Or.inl rfl⟩
set_option maxRecDepth 100000 in
theorem xp_104 : xs_ok (xX D kc h0 u h1 v t) (xw kc h0 u h1 v) 104 := ⟨_, rfl, Or.inl rfl⟩
set_option maxRecDepth 100000 in
theorem xp_105 : xs_ok (xX D kc h0 u h1 v t) (xw kc h0 u h1 v) 105 := ⟨_, rfl, Or.inl rfl⟩
set_option maxRecDepth 100000 in
theorem xp_106 : xs_ok (xX D kc h0 u h1 v t) (xw kc h0 u h1 v) 106 := ⟨_, rfl, Or.inl rfl⟩
set_option maxRecDepth 100000 in
theorem xp_107 : xs_ok (xX D kc h0 u h1 v t) (xw kc h0 u h1 v) 107 := ⟨_, rfl, Or.inl rfl⟩
set_option maxRecDepth 100000 in
theorem xp_108 : xs_ok (xX D kc h0 u h1 v t) (xw kc h0 u h1 v) 108 := ⟨_, rfl, Or.inl rfl⟩
set_option maxRecDepth 100000 in
theorem xp_109 : xs_ok (xX D kc h0 u h1 v t) (xw kc h0 u h1 v) 109 := ⟨_, rfl, Or.inl rfl⟩
set_option maxRecDepth 100000 in
theorem xp_110 : xs_ok (xX D kc h0 u h1 v t) (xw kc h0 u h1 v) 110 := ⟨_, rfl, Or.inl rfl⟩
set_option maxRecDepth 100000 in
theorem xp_111 : xs_ok (xX D kc h0 u h1 v t) (xw kc h0 u h1 v) 111 := ⟨_, rfl, Or.inl rfl⟩
set_option maxRecDepth 100000 in
theorem xp_112 : xs_ok (xX D kc h0 u h1 v t) (xw kc h0 u h1 v) 112 := ⟨_, rfl, Or.inl rfl⟩
set_option maxRecDepth 100000 in
theorem xp_all : xall 113 (xs_ok (xX D kc h0 u h1 v t) (xw kc h0 u h1 v)) := ⟨⟨⟨⟨⟨⟨⟨⟨⟨⟨⟨⟨⟨⟨⟨⟨⟨⟨⟨⟨⟨⟨⟨⟨⟨⟨⟨⟨⟨⟨⟨⟨⟨⟨⟨⟨⟨⟨⟨⟨⟨⟨⟨⟨⟨⟨⟨⟨⟨⟨⟨⟨⟨⟨⟨⟨⟨⟨⟨⟨⟨⟨⟨⟨⟨⟨⟨⟨⟨⟨⟨⟨⟨⟨⟨⟨⟨⟨⟨⟨⟨⟨⟨⟨⟨⟨⟨⟨⟨⟨⟨⟨⟨⟨⟨⟨⟨⟨⟨⟨⟨⟨⟨⟨⟨⟨⟨⟨⟨⟨⟨⟨⟨trivial, xp_0⟩, xp_1⟩, xp_2⟩, xp_3⟩, xp_4⟩, xp_5⟩, xp_6⟩, xp_7⟩, xp_8⟩, xp_9⟩, xp_10⟩, xp_11⟩, xp_12⟩, xp_13⟩, xp_14⟩, xp_15⟩, xp_16⟩, xp_17⟩, xp_18⟩, xp_19⟩, xp_20⟩, xp_21⟩, xp_22⟩, xp_23⟩, xp_24⟩, xp_25⟩, xp_26⟩, xp_27⟩, xp_28⟩, xp_29⟩, xp_30⟩, xp_31⟩, xp_32⟩, xp_33⟩, xp_34⟩, xp_35⟩, xp_36⟩, xp_37⟩, xp_38⟩, xp_39⟩, xp_40⟩, xp_41⟩, xp_42⟩, xp_43⟩, xp_44⟩, xp_45⟩, xp_46⟩, xp_47⟩, xp_48⟩, xp_49⟩, xp_50⟩, xp_51⟩, xp_52⟩, xp_53⟩, xp_54⟩, xp_55⟩, xp_56⟩, xp_57⟩, xp_58⟩, xp_59⟩, xp_60⟩, xp_61⟩, xp_62⟩, xp_63⟩, xp_64⟩, xp_65⟩, xp_66⟩, xp_67⟩, xp_68⟩, xp_69⟩, xp_70⟩, xp_71⟩, xp_72⟩, xp_73⟩, xp_74⟩, xp_75⟩, xp_76⟩, xp_77⟩, xp_78⟩, xp_79⟩, xp_80⟩, xp_81⟩, xp_82⟩, xp_83⟩, xp_84⟩, xp_85⟩, xp_86⟩, xp_87⟩, xp_88⟩, xp_89⟩, xp_90⟩, xp_91⟩, xp_92⟩, xp_93⟩, xp_94⟩, xp_95⟩, xp_96⟩, xp_97⟩, xp_98⟩, xp_99⟩, xp_100⟩, xp_101⟩, xp_102⟩, xp_103⟩, xp_104⟩, xp_105⟩, xp_106⟩, xp_107⟩, xp_108⟩, xp_109⟩, xp_110⟩, xp_111⟩, xp_112⟩
end XW
