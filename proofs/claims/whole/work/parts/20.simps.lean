/-! what the steps come to, for simp only -/
section RAE
variable {k kt kf kd : ra_K} {L S : List Value} {σ : ra_St}
theorem e_il0 {x : Int32} : w_il 0 k (.int x :: L) S σ = k (.int x :: L) (.int x :: S) σ := rfl
theorem e_al0 {x : Nat} : w_al 0 k (.ref x :: L) S σ = k (.ref x :: L) (.ref x :: S) σ := rfl
theorem e_is0 {x : Int32} {z : Value} : w_is 0 k (z :: L) (.int x :: S) σ = k (.int x :: L) S σ := by simp [w_is, ra_nl]
theorem e_as0 {x : Nat} {z : Value} : w_as 0 k (z :: L) (.ref x :: S) σ = k (.ref x :: L) S σ := by simp [w_as, ra_nl]
theorem e_il1 {a0 : Value} {x : Int32} : w_il 1 k (a0 :: .int x :: L) S σ = k (a0 :: .int x :: L) (.int x :: S) σ := rfl
theorem e_al1 {a0 : Value} {x : Nat} : w_al 1 k (a0 :: .ref x :: L) S σ = k (a0 :: .ref x :: L) (.ref x :: S) σ := rfl
theorem e_ll1 {a0 : Value} {x : Int64} : w_ll 1 k (a0 :: .long x :: L) S σ = k (a0 :: .long x :: L) (.long x :: S) σ := rfl
theorem e_is1i {b : Int32} {x : Int32} {z : Value} : w_is 1 k (.int b :: z :: L) (.int x :: S) σ = k (.int b :: .int x :: L) S σ := by simp [w_is, ra_nl]
theorem e_is1r {b : Nat} {x : Int32} {z : Value} : w_is 1 k (.ref b :: z :: L) (.int x :: S) σ = k (.ref b :: .int x :: L) S σ := by simp [w_is, ra_nl]
theorem e_is1n {x : Int32} {z : Value} : w_is 1 k (.null :: z :: L) (.int x :: S) σ = k (.null :: .int x :: L) S σ := by simp [w_is, ra_nl]
theorem e_inc1i {b : Int32} {x v : Int32} : w_inc 1 v k (.int b :: .int x :: L) S σ = k (.int b :: .int (x + v) :: L) S σ := by simp [w_inc, ra_nl]
theorem e_inc1r {b : Nat} {x v : Int32} : w_inc 1 v k (.ref b :: .int x :: L) S σ = k (.ref b :: .int (x + v) :: L) S σ := by simp [w_inc, ra_nl]
theorem e_inc1n {x v : Int32} : w_inc 1 v k (.null :: .int x :: L) S σ = k (.null :: .int (x + v) :: L) S σ := by simp [w_inc, ra_nl]
theorem e_il2 {a0 a1 : Value} {x : Int32} : w_il 2 k (a0 :: a1 :: .int x :: L) S σ = k (a0 :: a1 :: .int x :: L) (.int x :: S) σ := rfl
theorem e_al2 {a0 a1 : Value} {x : Nat} : w_al 2 k (a0 :: a1 :: .ref x :: L) S σ = k (a0 :: a1 :: .ref x :: L) (.ref x :: S) σ := rfl
theorem e_is2i {a0 : Value} {b : Int32} {x : Int32} {z : Value} : w_is 2 k (a0 :: .int b :: z :: L) (.int x :: S) σ = k (a0 :: .int b :: .int x :: L) S σ := by simp [w_is, ra_nl]
theorem e_is2r {a0 : Value} {b : Nat} {x : Int32} {z : Value} : w_is 2 k (a0 :: .ref b :: z :: L) (.int x :: S) σ = k (a0 :: .ref b :: .int x :: L) S σ := by simp [w_is, ra_nl]
theorem e_is2n {a0 : Value} {x : Int32} {z : Value} : w_is 2 k (a0 :: .null :: z :: L) (.int x :: S) σ = k (a0 :: .null :: .int x :: L) S σ := by simp [w_is, ra_nl]
theorem e_as2i {a0 : Value} {b : Int32} {x : Nat} {z : Value} : w_as 2 k (a0 :: .int b :: z :: L) (.ref x :: S) σ = k (a0 :: .int b :: .ref x :: L) S σ := by simp [w_as, ra_nl]
theorem e_as2r {a0 : Value} {b : Nat} {x : Nat} {z : Value} : w_as 2 k (a0 :: .ref b :: z :: L) (.ref x :: S) σ = k (a0 :: .ref b :: .ref x :: L) S σ := by simp [w_as, ra_nl]
theorem e_as2n {a0 : Value} {x : Nat} {z : Value} : w_as 2 k (a0 :: .null :: z :: L) (.ref x :: S) σ = k (a0 :: .null :: .ref x :: L) S σ := by simp [w_as, ra_nl]
theorem e_inc2i {a0 : Value} {b : Int32} {x v : Int32} : w_inc 2 v k (a0 :: .int b :: .int x :: L) S σ = k (a0 :: .int b :: .int (x + v) :: L) S σ := by simp [w_inc, ra_nl]
theorem e_inc2r {a0 : Value} {b : Nat} {x v : Int32} : w_inc 2 v k (a0 :: .ref b :: .int x :: L) S σ = k (a0 :: .ref b :: .int (x + v) :: L) S σ := by simp [w_inc, ra_nl]
theorem e_inc2n {a0 : Value} {x v : Int32} : w_inc 2 v k (a0 :: .null :: .int x :: L) S σ = k (a0 :: .null :: .int (x + v) :: L) S σ := by simp [w_inc, ra_nl]
theorem e_il3 {a0 a1 a2 : Value} {x : Int32} : w_il 3 k (a0 :: a1 :: a2 :: .int x :: L) S σ = k (a0 :: a1 :: a2 :: .int x :: L) (.int x :: S) σ := rfl
theorem e_al3 {a0 a1 a2 : Value} {x : Nat} : w_al 3 k (a0 :: a1 :: a2 :: .ref x :: L) S σ = k (a0 :: a1 :: a2 :: .ref x :: L) (.ref x :: S) σ := rfl
theorem e_is3i {a0 a1 : Value} {b : Int32} {x : Int32} {z : Value} : w_is 3 k (a0 :: a1 :: .int b :: z :: L) (.int x :: S) σ = k (a0 :: a1 :: .int b :: .int x :: L) S σ := by simp [w_is, ra_nl]
theorem e_is3r {a0 a1 : Value} {b : Nat} {x : Int32} {z : Value} : w_is 3 k (a0 :: a1 :: .ref b :: z :: L) (.int x :: S) σ = k (a0 :: a1 :: .ref b :: .int x :: L) S σ := by simp [w_is, ra_nl]
theorem e_is3n {a0 a1 : Value} {x : Int32} {z : Value} : w_is 3 k (a0 :: a1 :: .null :: z :: L) (.int x :: S) σ = k (a0 :: a1 :: .null :: .int x :: L) S σ := by simp [w_is, ra_nl]
theorem e_as3i {a0 a1 : Value} {b : Int32} {x : Nat} {z : Value} : w_as 3 k (a0 :: a1 :: .int b :: z :: L) (.ref x :: S) σ = k (a0 :: a1 :: .int b :: .ref x :: L) S σ := by simp [w_as, ra_nl]
theorem e_as3r {a0 a1 : Value} {b : Nat} {x : Nat} {z : Value} : w_as 3 k (a0 :: a1 :: .ref b :: z :: L) (.ref x :: S) σ = k (a0 :: a1 :: .ref b :: .ref x :: L) S σ := by simp [w_as, ra_nl]
theorem e_as3n {a0 a1 : Value} {x : Nat} {z : Value} : w_as 3 k (a0 :: a1 :: .null :: z :: L) (.ref x :: S) σ = k (a0 :: a1 :: .null :: .ref x :: L) S σ := by simp [w_as, ra_nl]
theorem e_inc3i {a0 a1 : Value} {b : Int32} {x v : Int32} : w_inc 3 v k (a0 :: a1 :: .int b :: .int x :: L) S σ = k (a0 :: a1 :: .int b :: .int (x + v) :: L) S σ := by simp [w_inc, ra_nl]
theorem e_inc3r {a0 a1 : Value} {b : Nat} {x v : Int32} : w_inc 3 v k (a0 :: a1 :: .ref b :: .int x :: L) S σ = k (a0 :: a1 :: .ref b :: .int (x + v) :: L) S σ := by simp [w_inc, ra_nl]
theorem e_inc3n {a0 a1 : Value} {x v : Int32} : w_inc 3 v k (a0 :: a1 :: .null :: .int x :: L) S σ = k (a0 :: a1 :: .null :: .int (x + v) :: L) S σ := by simp [w_inc, ra_nl]
theorem e_il4 {a0 a1 a2 a3 : Value} {x : Int32} : w_il 4 k (a0 :: a1 :: a2 :: a3 :: .int x :: L) S σ = k (a0 :: a1 :: a2 :: a3 :: .int x :: L) (.int x :: S) σ := rfl
theorem e_al4 {a0 a1 a2 a3 : Value} {x : Nat} : w_al 4 k (a0 :: a1 :: a2 :: a3 :: .ref x :: L) S σ = k (a0 :: a1 :: a2 :: a3 :: .ref x :: L) (.ref x :: S) σ := rfl
theorem e_is4i {a0 a1 a2 : Value} {b : Int32} {x : Int32} {z : Value} : w_is 4 k (a0 :: a1 :: a2 :: .int b :: z :: L) (.int x :: S) σ = k (a0 :: a1 :: a2 :: .int b :: .int x :: L) S σ := by simp [w_is, ra_nl]
theorem e_is4r {a0 a1 a2 : Value} {b : Nat} {x : Int32} {z : Value} : w_is 4 k (a0 :: a1 :: a2 :: .ref b :: z :: L) (.int x :: S) σ = k (a0 :: a1 :: a2 :: .ref b :: .int x :: L) S σ := by simp [w_is, ra_nl]
theorem e_is4n {a0 a1 a2 : Value} {x : Int32} {z : Value} : w_is 4 k (a0 :: a1 :: a2 :: .null :: z :: L) (.int x :: S) σ = k (a0 :: a1 :: a2 :: .null :: .int x :: L) S σ := by simp [w_is, ra_nl]
theorem e_as4i {a0 a1 a2 : Value} {b : Int32} {x : Nat} {z : Value} : w_as 4 k (a0 :: a1 :: a2 :: .int b :: z :: L) (.ref x :: S) σ = k (a0 :: a1 :: a2 :: .int b :: .ref x :: L) S σ := by simp [w_as, ra_nl]
theorem e_as4r {a0 a1 a2 : Value} {b : Nat} {x : Nat} {z : Value} : w_as 4 k (a0 :: a1 :: a2 :: .ref b :: z :: L) (.ref x :: S) σ = k (a0 :: a1 :: a2 :: .ref b :: .ref x :: L) S σ := by simp [w_as, ra_nl]
theorem e_as4n {a0 a1 a2 : Value} {x : Nat} {z : Value} : w_as 4 k (a0 :: a1 :: a2 :: .null :: z :: L) (.ref x :: S) σ = k (a0 :: a1 :: a2 :: .null :: .ref x :: L) S σ := by simp [w_as, ra_nl]
theorem e_inc4i {a0 a1 a2 : Value} {b : Int32} {x v : Int32} : w_inc 4 v k (a0 :: a1 :: a2 :: .int b :: .int x :: L) S σ = k (a0 :: a1 :: a2 :: .int b :: .int (x + v) :: L) S σ := by simp [w_inc, ra_nl]
theorem e_inc4r {a0 a1 a2 : Value} {b : Nat} {x v : Int32} : w_inc 4 v k (a0 :: a1 :: a2 :: .ref b :: .int x :: L) S σ = k (a0 :: a1 :: a2 :: .ref b :: .int (x + v) :: L) S σ := by simp [w_inc, ra_nl]
theorem e_inc4n {a0 a1 a2 : Value} {x v : Int32} : w_inc 4 v k (a0 :: a1 :: a2 :: .null :: .int x :: L) S σ = k (a0 :: a1 :: a2 :: .null :: .int (x + v) :: L) S σ := by simp [w_inc, ra_nl]
theorem e_il5 {a0 a1 a2 a3 a4 : Value} {x : Int32} : w_il 5 k (a0 :: a1 :: a2 :: a3 :: a4 :: .int x :: L) S σ = k (a0 :: a1 :: a2 :: a3 :: a4 :: .int x :: L) (.int x :: S) σ := rfl
theorem e_al5 {a0 a1 a2 a3 a4 : Value} {x : Nat} : w_al 5 k (a0 :: a1 :: a2 :: a3 :: a4 :: .ref x :: L) S σ = k (a0 :: a1 :: a2 :: a3 :: a4 :: .ref x :: L) (.ref x :: S) σ := rfl
theorem e_is5i {a0 a1 a2 a3 : Value} {b : Int32} {x : Int32} {z : Value} : w_is 5 k (a0 :: a1 :: a2 :: a3 :: .int b :: z :: L) (.int x :: S) σ = k (a0 :: a1 :: a2 :: a3 :: .int b :: .int x :: L) S σ := by simp [w_is, ra_nl]
theorem e_is5r {a0 a1 a2 a3 : Value} {b : Nat} {x : Int32} {z : Value} : w_is 5 k (a0 :: a1 :: a2 :: a3 :: .ref b :: z :: L) (.int x :: S) σ = k (a0 :: a1 :: a2 :: a3 :: .ref b :: .int x :: L) S σ := by simp [w_is, ra_nl]
theorem e_is5n {a0 a1 a2 a3 : Value} {x : Int32} {z : Value} : w_is 5 k (a0 :: a1 :: a2 :: a3 :: .null :: z :: L) (.int x :: S) σ = k (a0 :: a1 :: a2 :: a3 :: .null :: .int x :: L) S σ := by simp [w_is, ra_nl]
theorem e_as5i {a0 a1 a2 a3 : Value} {b : Int32} {x : Nat} {z : Value} : w_as 5 k (a0 :: a1 :: a2 :: a3 :: .int b :: z :: L) (.ref x :: S) σ = k (a0 :: a1 :: a2 :: a3 :: .int b :: .ref x :: L) S σ := by simp [w_as, ra_nl]
theorem e_as5r {a0 a1 a2 a3 : Value} {b : Nat} {x : Nat} {z : Value} : w_as 5 k (a0 :: a1 :: a2 :: a3 :: .ref b :: z :: L) (.ref x :: S) σ = k (a0 :: a1 :: a2 :: a3 :: .ref b :: .ref x :: L) S σ := by simp [w_as, ra_nl]
theorem e_as5n {a0 a1 a2 a3 : Value} {x : Nat} {z : Value} : w_as 5 k (a0 :: a1 :: a2 :: a3 :: .null :: z :: L) (.ref x :: S) σ = k (a0 :: a1 :: a2 :: a3 :: .null :: .ref x :: L) S σ := by simp [w_as, ra_nl]
theorem e_inc5i {a0 a1 a2 a3 : Value} {b : Int32} {x v : Int32} : w_inc 5 v k (a0 :: a1 :: a2 :: a3 :: .int b :: .int x :: L) S σ = k (a0 :: a1 :: a2 :: a3 :: .int b :: .int (x + v) :: L) S σ := by simp [w_inc, ra_nl]
theorem e_inc5r {a0 a1 a2 a3 : Value} {b : Nat} {x v : Int32} : w_inc 5 v k (a0 :: a1 :: a2 :: a3 :: .ref b :: .int x :: L) S σ = k (a0 :: a1 :: a2 :: a3 :: .ref b :: .int (x + v) :: L) S σ := by simp [w_inc, ra_nl]
theorem e_inc5n {a0 a1 a2 a3 : Value} {x v : Int32} : w_inc 5 v k (a0 :: a1 :: a2 :: a3 :: .null :: .int x :: L) S σ = k (a0 :: a1 :: a2 :: a3 :: .null :: .int (x + v) :: L) S σ := by simp [w_inc, ra_nl]
theorem e_il6 {a0 a1 a2 a3 a4 a5 : Value} {x : Int32} : w_il 6 k (a0 :: a1 :: a2 :: a3 :: a4 :: a5 :: .int x :: L) S σ = k (a0 :: a1 :: a2 :: a3 :: a4 :: a5 :: .int x :: L) (.int x :: S) σ := rfl
theorem e_al6 {a0 a1 a2 a3 a4 a5 : Value} {x : Nat} : w_al 6 k (a0 :: a1 :: a2 :: a3 :: a4 :: a5 :: .ref x :: L) S σ = k (a0 :: a1 :: a2 :: a3 :: a4 :: a5 :: .ref x :: L) (.ref x :: S) σ := rfl
theorem e_is6i {a0 a1 a2 a3 a4 : Value} {b : Int32} {x : Int32} {z : Value} : w_is 6 k (a0 :: a1 :: a2 :: a3 :: a4 :: .int b :: z :: L) (.int x :: S) σ = k (a0 :: a1 :: a2 :: a3 :: a4 :: .int b :: .int x :: L) S σ := by simp [w_is, ra_nl]
theorem e_is6r {a0 a1 a2 a3 a4 : Value} {b : Nat} {x : Int32} {z : Value} : w_is 6 k (a0 :: a1 :: a2 :: a3 :: a4 :: .ref b :: z :: L) (.int x :: S) σ = k (a0 :: a1 :: a2 :: a3 :: a4 :: .ref b :: .int x :: L) S σ := by simp [w_is, ra_nl]
theorem e_is6n {a0 a1 a2 a3 a4 : Value} {x : Int32} {z : Value} : w_is 6 k (a0 :: a1 :: a2 :: a3 :: a4 :: .null :: z :: L) (.int x :: S) σ = k (a0 :: a1 :: a2 :: a3 :: a4 :: .null :: .int x :: L) S σ := by simp [w_is, ra_nl]
theorem e_as6i {a0 a1 a2 a3 a4 : Value} {b : Int32} {x : Nat} {z : Value} : w_as 6 k (a0 :: a1 :: a2 :: a3 :: a4 :: .int b :: z :: L) (.ref x :: S) σ = k (a0 :: a1 :: a2 :: a3 :: a4 :: .int b :: .ref x :: L) S σ := by simp [w_as, ra_nl]
theorem e_as6r {a0 a1 a2 a3 a4 : Value} {b : Nat} {x : Nat} {z : Value} : w_as 6 k (a0 :: a1 :: a2 :: a3 :: a4 :: .ref b :: z :: L) (.ref x :: S) σ = k (a0 :: a1 :: a2 :: a3 :: a4 :: .ref b :: .ref x :: L) S σ := by simp [w_as, ra_nl]
theorem e_as6n {a0 a1 a2 a3 a4 : Value} {x : Nat} {z : Value} : w_as 6 k (a0 :: a1 :: a2 :: a3 :: a4 :: .null :: z :: L) (.ref x :: S) σ = k (a0 :: a1 :: a2 :: a3 :: a4 :: .null :: .ref x :: L) S σ := by simp [w_as, ra_nl]
theorem e_inc6i {a0 a1 a2 a3 a4 : Value} {b : Int32} {x v : Int32} : w_inc 6 v k (a0 :: a1 :: a2 :: a3 :: a4 :: .int b :: .int x :: L) S σ = k (a0 :: a1 :: a2 :: a3 :: a4 :: .int b :: .int (x + v) :: L) S σ := by simp [w_inc, ra_nl]
theorem e_inc6r {a0 a1 a2 a3 a4 : Value} {b : Nat} {x v : Int32} : w_inc 6 v k (a0 :: a1 :: a2 :: a3 :: a4 :: .ref b :: .int x :: L) S σ = k (a0 :: a1 :: a2 :: a3 :: a4 :: .ref b :: .int (x + v) :: L) S σ := by simp [w_inc, ra_nl]
theorem e_inc6n {a0 a1 a2 a3 a4 : Value} {x v : Int32} : w_inc 6 v k (a0 :: a1 :: a2 :: a3 :: a4 :: .null :: .int x :: L) S σ = k (a0 :: a1 :: a2 :: a3 :: a4 :: .null :: .int (x + v) :: L) S σ := by simp [w_inc, ra_nl]
theorem e_il7 {a0 a1 a2 a3 a4 a5 a6 : Value} {x : Int32} : w_il 7 k (a0 :: a1 :: a2 :: a3 :: a4 :: a5 :: a6 :: .int x :: L) S σ = k (a0 :: a1 :: a2 :: a3 :: a4 :: a5 :: a6 :: .int x :: L) (.int x :: S) σ := rfl
theorem e_al7 {a0 a1 a2 a3 a4 a5 a6 : Value} {x : Nat} : w_al 7 k (a0 :: a1 :: a2 :: a3 :: a4 :: a5 :: a6 :: .ref x :: L) S σ = k (a0 :: a1 :: a2 :: a3 :: a4 :: a5 :: a6 :: .ref x :: L) (.ref x :: S) σ := rfl
theorem e_is7i {a0 a1 a2 a3 a4 a5 : Value} {b : Int32} {x : Int32} {z : Value} : w_is 7 k (a0 :: a1 :: a2 :: a3 :: a4 :: a5 :: .int b :: z :: L) (.int x :: S) σ = k (a0 :: a1 :: a2 :: a3 :: a4 :: a5 :: .int b :: .int x :: L) S σ := by simp [w_is, ra_nl]
theorem e_is7r {a0 a1 a2 a3 a4 a5 : Value} {b : Nat} {x : Int32} {z : Value} : w_is 7 k (a0 :: a1 :: a2 :: a3 :: a4 :: a5 :: .ref b :: z :: L) (.int x :: S) σ = k (a0 :: a1 :: a2 :: a3 :: a4 :: a5 :: .ref b :: .int x :: L) S σ := by simp [w_is, ra_nl]
theorem e_is7n {a0 a1 a2 a3 a4 a5 : Value} {x : Int32} {z : Value} : w_is 7 k (a0 :: a1 :: a2 :: a3 :: a4 :: a5 :: .null :: z :: L) (.int x :: S) σ = k (a0 :: a1 :: a2 :: a3 :: a4 :: a5 :: .null :: .int x :: L) S σ := by simp [w_is, ra_nl]
theorem e_as7i {a0 a1 a2 a3 a4 a5 : Value} {b : Int32} {x : Nat} {z : Value} : w_as 7 k (a0 :: a1 :: a2 :: a3 :: a4 :: a5 :: .int b :: z :: L) (.ref x :: S) σ = k (a0 :: a1 :: a2 :: a3 :: a4 :: a5 :: .int b :: .ref x :: L) S σ := by simp [w_as, ra_nl]
theorem e_as7r {a0 a1 a2 a3 a4 a5 : Value} {b : Nat} {x : Nat} {z : Value} : w_as 7 k (a0 :: a1 :: a2 :: a3 :: a4 :: a5 :: .ref b :: z :: L) (.ref x :: S) σ = k (a0 :: a1 :: a2 :: a3 :: a4 :: a5 :: .ref b :: .ref x :: L) S σ := by simp [w_as, ra_nl]
theorem e_as7n {a0 a1 a2 a3 a4 a5 : Value} {x : Nat} {z : Value} : w_as 7 k (a0 :: a1 :: a2 :: a3 :: a4 :: a5 :: .null :: z :: L) (.ref x :: S) σ = k (a0 :: a1 :: a2 :: a3 :: a4 :: a5 :: .null :: .ref x :: L) S σ := by simp [w_as, ra_nl]
theorem e_inc7i {a0 a1 a2 a3 a4 a5 : Value} {b : Int32} {x v : Int32} : w_inc 7 v k (a0 :: a1 :: a2 :: a3 :: a4 :: a5 :: .int b :: .int x :: L) S σ = k (a0 :: a1 :: a2 :: a3 :: a4 :: a5 :: .int b :: .int (x + v) :: L) S σ := by simp [w_inc, ra_nl]
theorem e_inc7r {a0 a1 a2 a3 a4 a5 : Value} {b : Nat} {x v : Int32} : w_inc 7 v k (a0 :: a1 :: a2 :: a3 :: a4 :: a5 :: .ref b :: .int x :: L) S σ = k (a0 :: a1 :: a2 :: a3 :: a4 :: a5 :: .ref b :: .int (x + v) :: L) S σ := by simp [w_inc, ra_nl]
theorem e_inc7n {a0 a1 a2 a3 a4 a5 : Value} {x v : Int32} : w_inc 7 v k (a0 :: a1 :: a2 :: a3 :: a4 :: a5 :: .null :: .int x :: L) S σ = k (a0 :: a1 :: a2 :: a3 :: a4 :: a5 :: .null :: .int (x + v) :: L) S σ := by simp [w_inc, ra_nl]
theorem e_il8 {a0 a1 a2 a3 a4 a5 a6 a7 : Value} {x : Int32} : w_il 8 k (a0 :: a1 :: a2 :: a3 :: a4 :: a5 :: a6 :: a7 :: .int x :: L) S σ = k (a0 :: a1 :: a2 :: a3 :: a4 :: a5 :: a6 :: a7 :: .int x :: L) (.int x :: S) σ := rfl
theorem e_al8 {a0 a1 a2 a3 a4 a5 a6 a7 : Value} {x : Nat} : w_al 8 k (a0 :: a1 :: a2 :: a3 :: a4 :: a5 :: a6 :: a7 :: .ref x :: L) S σ = k (a0 :: a1 :: a2 :: a3 :: a4 :: a5 :: a6 :: a7 :: .ref x :: L) (.ref x :: S) σ := rfl
theorem e_is8i {a0 a1 a2 a3 a4 a5 a6 : Value} {b : Int32} {x : Int32} {z : Value} : w_is 8 k (a0 :: a1 :: a2 :: a3 :: a4 :: a5 :: a6 :: .int b :: z :: L) (.int x :: S) σ = k (a0 :: a1 :: a2 :: a3 :: a4 :: a5 :: a6 :: .int b :: .int x :: L) S σ := by simp [w_is, ra_nl]
theorem e_is8r {a0 a1 a2 a3 a4 a5 a6 : Value} {b : Nat} {x : Int32} {z : Value} : w_is 8 k (a0 :: a1 :: a2 :: a3 :: a4 :: a5 :: a6 :: .ref b :: z :: L) (.int x :: S) σ = k (a0 :: a1 :: a2 :: a3 :: a4 :: a5 :: a6 :: .ref b :: .int x :: L) S σ := by simp [w_is, ra_nl]
theorem e_is8n {a0 a1 a2 a3 a4 a5 a6 : Value} {x : Int32} {z : Value} : w_is 8 k (a0 :: a1 :: a2 :: a3 :: a4 :: a5 :: a6 :: .null :: z :: L) (.int x :: S) σ = k (a0 :: a1 :: a2 :: a3 :: a4 :: a5 :: a6 :: .null :: .int x :: L) S σ := by simp [w_is, ra_nl]
theorem e_as8i {a0 a1 a2 a3 a4 a5 a6 : Value} {b : Int32} {x : Nat} {z : Value} : w_as 8 k (a0 :: a1 :: a2 :: a3 :: a4 :: a5 :: a6 :: .int b :: z :: L) (.ref x :: S) σ = k (a0 :: a1 :: a2 :: a3 :: a4 :: a5 :: a6 :: .int b :: .ref x :: L) S σ := by simp [w_as, ra_nl]
theorem e_as8r {a0 a1 a2 a3 a4 a5 a6 : Value} {b : Nat} {x : Nat} {z : Value} : w_as 8 k (a0 :: a1 :: a2 :: a3 :: a4 :: a5 :: a6 :: .ref b :: z :: L) (.ref x :: S) σ = k (a0 :: a1 :: a2 :: a3 :: a4 :: a5 :: a6 :: .ref b :: .ref x :: L) S σ := by simp [w_as, ra_nl]
theorem e_as8n {a0 a1 a2 a3 a4 a5 a6 : Value} {x : Nat} {z : Value} : w_as 8 k (a0 :: a1 :: a2 :: a3 :: a4 :: a5 :: a6 :: .null :: z :: L) (.ref x :: S) σ = k (a0 :: a1 :: a2 :: a3 :: a4 :: a5 :: a6 :: .null :: .ref x :: L) S σ := by simp [w_as, ra_nl]
theorem e_inc8i {a0 a1 a2 a3 a4 a5 a6 : Value} {b : Int32} {x v : Int32} : w_inc 8 v k (a0 :: a1 :: a2 :: a3 :: a4 :: a5 :: a6 :: .int b :: .int x :: L) S σ = k (a0 :: a1 :: a2 :: a3 :: a4 :: a5 :: a6 :: .int b :: .int (x + v) :: L) S σ := by simp [w_inc, ra_nl]
theorem e_inc8r {a0 a1 a2 a3 a4 a5 a6 : Value} {b : Nat} {x v : Int32} : w_inc 8 v k (a0 :: a1 :: a2 :: a3 :: a4 :: a5 :: a6 :: .ref b :: .int x :: L) S σ = k (a0 :: a1 :: a2 :: a3 :: a4 :: a5 :: a6 :: .ref b :: .int (x + v) :: L) S σ := by simp [w_inc, ra_nl]
theorem e_inc8n {a0 a1 a2 a3 a4 a5 a6 : Value} {x v : Int32} : w_inc 8 v k (a0 :: a1 :: a2 :: a3 :: a4 :: a5 :: a6 :: .null :: .int x :: L) S σ = k (a0 :: a1 :: a2 :: a3 :: a4 :: a5 :: a6 :: .null :: .int (x + v) :: L) S σ := by simp [w_inc, ra_nl]
theorem e_il9 {a0 a1 a2 a3 a4 a5 a6 a7 a8 : Value} {x : Int32} : w_il 9 k (a0 :: a1 :: a2 :: a3 :: a4 :: a5 :: a6 :: a7 :: a8 :: .int x :: L) S σ = k (a0 :: a1 :: a2 :: a3 :: a4 :: a5 :: a6 :: a7 :: a8 :: .int x :: L) (.int x :: S) σ := rfl
theorem e_al9 {a0 a1 a2 a3 a4 a5 a6 a7 a8 : Value} {x : Nat} : w_al 9 k (a0 :: a1 :: a2 :: a3 :: a4 :: a5 :: a6 :: a7 :: a8 :: .ref x :: L) S σ = k (a0 :: a1 :: a2 :: a3 :: a4 :: a5 :: a6 :: a7 :: a8 :: .ref x :: L) (.ref x :: S) σ := rfl
theorem e_is9i {a0 a1 a2 a3 a4 a5 a6 a7 : Value} {b : Int32} {x : Int32} {z : Value} : w_is 9 k (a0 :: a1 :: a2 :: a3 :: a4 :: a5 :: a6 :: a7 :: .int b :: z :: L) (.int x :: S) σ = k (a0 :: a1 :: a2 :: a3 :: a4 :: a5 :: a6 :: a7 :: .int b :: .int x :: L) S σ := by simp [w_is, ra_nl]
theorem e_is9r {a0 a1 a2 a3 a4 a5 a6 a7 : Value} {b : Nat} {x : Int32} {z : Value} : w_is 9 k (a0 :: a1 :: a2 :: a3 :: a4 :: a5 :: a6 :: a7 :: .ref b :: z :: L) (.int x :: S) σ = k (a0 :: a1 :: a2 :: a3 :: a4 :: a5 :: a6 :: a7 :: .ref b :: .int x :: L) S σ := by simp [w_is, ra_nl]
theorem e_is9n {a0 a1 a2 a3 a4 a5 a6 a7 : Value} {x : Int32} {z : Value} : w_is 9 k (a0 :: a1 :: a2 :: a3 :: a4 :: a5 :: a6 :: a7 :: .null :: z :: L) (.int x :: S) σ = k (a0 :: a1 :: a2 :: a3 :: a4 :: a5 :: a6 :: a7 :: .null :: .int x :: L) S σ := by simp [w_is, ra_nl]
theorem e_as9i {a0 a1 a2 a3 a4 a5 a6 a7 : Value} {b : Int32} {x : Nat} {z : Value} : w_as 9 k (a0 :: a1 :: a2 :: a3 :: a4 :: a5 :: a6 :: a7 :: .int b :: z :: L) (.ref x :: S) σ = k (a0 :: a1 :: a2 :: a3 :: a4 :: a5 :: a6 :: a7 :: .int b :: .ref x :: L) S σ := by simp [w_as, ra_nl]
theorem e_as9r {a0 a1 a2 a3 a4 a5 a6 a7 : Value} {b : Nat} {x : Nat} {z : Value} : w_as 9 k (a0 :: a1 :: a2 :: a3 :: a4 :: a5 :: a6 :: a7 :: .ref b :: z :: L) (.ref x :: S) σ = k (a0 :: a1 :: a2 :: a3 :: a4 :: a5 :: a6 :: a7 :: .ref b :: .ref x :: L) S σ := by simp [w_as, ra_nl]
theorem e_as9n {a0 a1 a2 a3 a4 a5 a6 a7 : Value} {x : Nat} {z : Value} : w_as 9 k (a0 :: a1 :: a2 :: a3 :: a4 :: a5 :: a6 :: a7 :: .null :: z :: L) (.ref x :: S) σ = k (a0 :: a1 :: a2 :: a3 :: a4 :: a5 :: a6 :: a7 :: .null :: .ref x :: L) S σ := by simp [w_as, ra_nl]
theorem e_inc9i {a0 a1 a2 a3 a4 a5 a6 a7 : Value} {b : Int32} {x v : Int32} : w_inc 9 v k (a0 :: a1 :: a2 :: a3 :: a4 :: a5 :: a6 :: a7 :: .int b :: .int x :: L) S σ = k (a0 :: a1 :: a2 :: a3 :: a4 :: a5 :: a6 :: a7 :: .int b :: .int (x + v) :: L) S σ := by simp [w_inc, ra_nl]
theorem e_inc9r {a0 a1 a2 a3 a4 a5 a6 a7 : Value} {b : Nat} {x v : Int32} : w_inc 9 v k (a0 :: a1 :: a2 :: a3 :: a4 :: a5 :: a6 :: a7 :: .ref b :: .int x :: L) S σ = k (a0 :: a1 :: a2 :: a3 :: a4 :: a5 :: a6 :: a7 :: .ref b :: .int (x + v) :: L) S σ := by simp [w_inc, ra_nl]
theorem e_inc9n {a0 a1 a2 a3 a4 a5 a6 a7 : Value} {x v : Int32} : w_inc 9 v k (a0 :: a1 :: a2 :: a3 :: a4 :: a5 :: a6 :: a7 :: .null :: .int x :: L) S σ = k (a0 :: a1 :: a2 :: a3 :: a4 :: a5 :: a6 :: a7 :: .null :: .int (x + v) :: L) S σ := by simp [w_inc, ra_nl]
theorem e_il10 {a0 a1 a2 a3 a4 a5 a6 a7 a8 a9 : Value} {x : Int32} : w_il 10 k (a0 :: a1 :: a2 :: a3 :: a4 :: a5 :: a6 :: a7 :: a8 :: a9 :: .int x :: L) S σ = k (a0 :: a1 :: a2 :: a3 :: a4 :: a5 :: a6 :: a7 :: a8 :: a9 :: .int x :: L) (.int x :: S) σ := rfl
theorem e_al10 {a0 a1 a2 a3 a4 a5 a6 a7 a8 a9 : Value} {x : Nat} : w_al 10 k (a0 :: a1 :: a2 :: a3 :: a4 :: a5 :: a6 :: a7 :: a8 :: a9 :: .ref x :: L) S σ = k (a0 :: a1 :: a2 :: a3 :: a4 :: a5 :: a6 :: a7 :: a8 :: a9 :: .ref x :: L) (.ref x :: S) σ := rfl
theorem e_is10i {a0 a1 a2 a3 a4 a5 a6 a7 a8 : Value} {b : Int32} {x : Int32} {z : Value} : w_is 10 k (a0 :: a1 :: a2 :: a3 :: a4 :: a5 :: a6 :: a7 :: a8 :: .int b :: z :: L) (.int x :: S) σ = k (a0 :: a1 :: a2 :: a3 :: a4 :: a5 :: a6 :: a7 :: a8 :: .int b :: .int x :: L) S σ := by simp [w_is, ra_nl]
theorem e_is10r {a0 a1 a2 a3 a4 a5 a6 a7 a8 : Value} {b : Nat} {x : Int32} {z : Value} : w_is 10 k (a0 :: a1 :: a2 :: a3 :: a4 :: a5 :: a6 :: a7 :: a8 :: .ref b :: z :: L) (.int x :: S) σ = k (a0 :: a1 :: a2 :: a3 :: a4 :: a5 :: a6 :: a7 :: a8 :: .ref b :: .int x :: L) S σ := by simp [w_is, ra_nl]
theorem e_is10n {a0 a1 a2 a3 a4 a5 a6 a7 a8 : Value} {x : Int32} {z : Value} : w_is 10 k (a0 :: a1 :: a2 :: a3 :: a4 :: a5 :: a6 :: a7 :: a8 :: .null :: z :: L) (.int x :: S) σ = k (a0 :: a1 :: a2 :: a3 :: a4 :: a5 :: a6 :: a7 :: a8 :: .null :: .int x :: L) S σ := by simp [w_is, ra_nl]
theorem e_as10i {a0 a1 a2 a3 a4 a5 a6 a7 a8 : Value} {b : Int32} {x : Nat} {z : Value} : w_as 10 k (a0 :: a1 :: a2 :: a3 :: a4 :: a5 :: a6 :: a7 :: a8 :: .int b :: z :: L) (.ref x :: S) σ = k (a0 :: a1 :: a2 :: a3 :: a4 :: a5 :: a6 :: a7 :: a8 :: .int b :: .ref x :: L) S σ := by simp [w_as, ra_nl]
theorem e_as10r {a0 a1 a2 a3 a4 a5 a6 a7 a8 : Value} {b : Nat} {x : Nat} {z : Value} : w_as 10 k (a0 :: a1 :: a2 :: a3 :: a4 :: a5 :: a6 :: a7 :: a8 :: .ref b :: z :: L) (.ref x :: S) σ = k (a0 :: a1 :: a2 :: a3 :: a4 :: a5 :: a6 :: a7 :: a8 :: .ref b :: .ref x :: L) S σ := by simp [w_as, ra_nl]
theorem e_as10n {a0 a1 a2 a3 a4 a5 a6 a7 a8 : Value} {x : Nat} {z : Value} : w_as 10 k (a0 :: a1 :: a2 :: a3 :: a4 :: a5 :: a6 :: a7 :: a8 :: .null :: z :: L) (.ref x :: S) σ = k (a0 :: a1 :: a2 :: a3 :: a4 :: a5 :: a6 :: a7 :: a8 :: .null :: .ref x :: L) S σ := by simp [w_as, ra_nl]
theorem e_inc10i {a0 a1 a2 a3 a4 a5 a6 a7 a8 : Value} {b : Int32} {x v : Int32} : w_inc 10 v k (a0 :: a1 :: a2 :: a3 :: a4 :: a5 :: a6 :: a7 :: a8 :: .int b :: .int x :: L) S σ = k (a0 :: a1 :: a2 :: a3 :: a4 :: a5 :: a6 :: a7 :: a8 :: .int b :: .int (x + v) :: L) S σ := by simp [w_inc, ra_nl]
theorem e_inc10r {a0 a1 a2 a3 a4 a5 a6 a7 a8 : Value} {b : Nat} {x v : Int32} : w_inc 10 v k (a0 :: a1 :: a2 :: a3 :: a4 :: a5 :: a6 :: a7 :: a8 :: .ref b :: .int x :: L) S σ = k (a0 :: a1 :: a2 :: a3 :: a4 :: a5 :: a6 :: a7 :: a8 :: .ref b :: .int (x + v) :: L) S σ := by simp [w_inc, ra_nl]
theorem e_inc10n {a0 a1 a2 a3 a4 a5 a6 a7 a8 : Value} {x v : Int32} : w_inc 10 v k (a0 :: a1 :: a2 :: a3 :: a4 :: a5 :: a6 :: a7 :: a8 :: .null :: .int x :: L) S σ = k (a0 :: a1 :: a2 :: a3 :: a4 :: a5 :: a6 :: a7 :: a8 :: .null :: .int (x + v) :: L) S σ := by simp [w_inc, ra_nl]
theorem e_ls1 {a : Nat} {x : Int64} {z y : Value} : w_ls 1 k (.ref a :: z :: y :: L) (.long x :: S) σ = k (.ref a :: .long x :: .null :: L) S σ := by simp [w_ls, ra_nl]
theorem e_c {v : Int32} : w_c v k L S σ = k L (.int v :: S) σ := rfl
theorem e_cl {v : Int64} : w_cl v k L S σ = k L (.long v :: S) σ := rfl
theorem e_i2 {f : Int32 → Int32 → Int32} {x y : Int32} : w_i2 f k L (.int y :: .int x :: S) σ = k L (.int (f x y) :: S) σ := rfl
theorem e_dv {f : Int32 → Int32 → Int32} {x y : Int32} : w_dv f k L (.int y :: .int x :: S) σ = (¬ y = 0 ∧ k L (.int (f x y) :: S) σ) := rfl
theorem e_i1 {f : Int32 → Int32} {x : Int32} : w_i1 f k L (.int x :: S) σ = k L (.int (f x) :: S) σ := rfl
theorem e_i2l {x : Int32} : w_i2l k L (.int x :: S) σ = k L (.long x.toInt64 :: S) σ := rfl
theorem e_l2 {f : Int64 → Int64 → Int64} {x y : Int64} : w_l2 f k L (.long y :: .long x :: S) σ = k L (.long (f x y) :: S) σ := rfl
theorem e_lcmp {x y : Int64} : w_lcmp k L (.long y :: .long x :: S) σ = k L (.int (lg_cmp x y) :: S) σ := rfl
theorem e_dupi {x : Int32} : w_dup k L (.int x :: S) σ = k L (.int x :: .int x :: S) σ := rfl
theorem e_dupr {x : Nat} : w_dup k L (.ref x :: S) σ = k L (.ref x :: .ref x :: S) σ := rfl
theorem e_dup2 {y : Int32} {x : Nat} : w_dup2 k L (.int y :: .ref x :: S) σ = k L (.int y :: .ref x :: .int y :: .ref x :: S) σ := rfl
theorem e_b1 {f : Int32 → Prop} {x : Int32} : w_b1 f kt kf L (.int x :: S) σ = ((f x → kt L S σ) ∧ (¬ f x → kf L S σ)) := rfl
theorem e_b2 {f : Int32 → Int32 → Prop} {x y : Int32} : w_b2 f kt kf L (.int y :: .int x :: S) σ = ((f x y → kt L S σ) ∧ (¬ f x y → kf L S σ)) := rfl
theorem e_gi {ci j a : Nat} : w_gi ci j k L (.ref a :: S) σ = (ra_cls a = ci + 4 ∧ k L (.int (σ a j) :: S) σ) := rfl
theorem e_gr {ci j a : Nat} : w_gr ci j k L (.ref a :: S) σ = (ra_cls a = ci + 4 ∧ k L (.ref (ra_tgt a j) :: S) σ) := rfl
theorem e_pi {ci j a : Nat} {v : Int32} : w_pi ci j k L (.int v :: .ref a :: S) σ = (ra_cls a = ci + 4 ∧ k L S (ra_sw σ a j v)) := rfl
theorem e_pz {ci j a : Nat} {v : Int32} : w_pz ci j k L (.int v :: .ref a :: S) σ = (ra_cls a = ci + 4 ∧ (v = 0 ∨ v = 1) ∧ k L S (ra_sw σ a j v)) := rfl
theorem e_ald {i : Int32} {a : Nat} : w_ald k L (.int i :: .ref a :: S) σ = (ra_cls a = 0 ∧ vp_in i (ra_len a) ∧ k L (.int (σ a i.toNatClampNeg) :: S) σ) := rfl
theorem e_ast {i v : Int32} {a : Nat} : w_ast k L (.int v :: .int i :: .ref a :: S) σ = (ra_cls a = 0 ∧ vp_in i (ra_len a) ∧ k L S (ra_sw σ a i.toNatClampNeg v)) := rfl
theorem e_zld {i : Int32} {a : Nat} : w_zld k L (.int i :: .ref a :: S) σ = (ra_cls a = 1 ∧ vp_in i (ra_len a) ∧ k L (.int (σ a i.toNatClampNeg) :: S) σ) := rfl
theorem e_zst {i v : Int32} {a : Nat} : w_zst k L (.int v :: .int i :: .ref a :: S) σ = (ra_cls a = 1 ∧ vp_in i (ra_len a) ∧ (v = 0 ∨ v = 1) ∧ k L S (ra_sw σ a i.toNatClampNeg v)) := rfl
theorem e_rld {i : Int32} {a n : Nat} : w_rld n k L (.int i :: .ref a :: S) σ = (ra_cls a = n ∧ vp_in i (ra_len a) ∧ k L (.ref (ra_tgt a i.toNatClampNeg) :: S) σ) := rfl
theorem e_max {x y : Int32} : w_max k L (.int y :: .int x :: S) σ = (ra_sh S = true ∧ k L (.int (if x < y then y else x) :: S) σ) := rfl
theorem e_min {x y : Int32} : w_min k L (.int y :: .int x :: S) σ = (ra_sh S = true ∧ k L (.int (if y < x then y else x) :: S) σ) := rfl
theorem e_cpy {n d i : Int32} {a b : Nat} : w_cpy k L (.int n :: .int d :: .ref b :: .int i :: .ref a :: S) σ = (ra_cls a = 0 ∧ ra_cls b = 0 ∧ ra_sh S = true ∧ ¬ i < 0 ∧ ¬ d < 0 ∧ ¬ n < 0 ∧ i.toNatClampNeg + n.toNatClampNeg ≤ ra_len a ∧ d.toNatClampNeg + n.toNatClampNeg ≤ ra_len b ∧ k L S (ra_su σ b (va_cpy (σ a) (σ b) i.toNatClampNeg d.toNatClampNeg n.toNatClampNeg))) := rfl
theorem e_ir {Z : ra_R} {v : Int32} : w_ir Z L [.int v] σ = Z (some (.int v)) σ := rfl
theorem e_zr {Z : ra_R} {v : Int32} : w_zr Z L [.int v] σ = ((v = 0 ∨ v = 1) ∧ Z (some (.int v)) σ) := rfl
theorem e_lr {Z : ra_R} {v : Int64} : w_lr Z L [.long v] σ = Z (some (.long v)) σ := rfl
theorem e_ar {Z : ra_R} {v : Nat} : w_ar Z L [.ref v] σ = Z (some (.ref v)) σ := rfl
theorem e_vr {Z : ra_R} : w_vr Z L [] σ = Z none σ := rfl
theorem e_sw {tb : List (Int32 × ra_K)} {x : Int32} : w_sw tb kd L (.int x :: S) σ = ra_go x (kd L S σ) (tb.map (fun q => (q.1, q.2 L S σ))) := rfl
theorem e_go0 {x : Int32} {K : Prop} : ra_go x K [] = K := rfl
theorem e_go1 {x : Int32} {K : Prop} {q : Int32 × Prop} {r : List (Int32 × Prop)} : ra_go x K (q :: r) = ((x = q.1 → q.2) ∧ (¬ x = q.1 → ra_go x K r)) := rfl
theorem e_cs0 {sp : ra_Sp} : w_cs sp 0 k L (S) σ = (ra_c1 [] = true ∧ ra_sh S = true ∧ sp [] σ (fun r σ' => k L (r.toList ++ S) σ')) := rfl
theorem e_cs1 {sp : ra_Sp} {v0 : Value} : w_cs sp 1 k L (v0 :: S) σ = (ra_c1 [v0] = true ∧ ra_sh S = true ∧ sp [v0] σ (fun r σ' => k L (r.toList ++ S) σ')) := rfl
theorem e_cv1 {sp : ra_Sp} {ci : Nat} {v0 : Value} : w_cv sp 1 ci k L (v0 :: S) σ = (ra_hd [v0] = ci + 4 ∧ ra_c1 [v0] = true ∧ ra_sh S = true ∧ sp [v0] σ (fun r σ' => k L (r.toList ++ S) σ')) := rfl
theorem e_cs2 {sp : ra_Sp} {v0 v1 : Value} : w_cs sp 2 k L (v1 :: v0 :: S) σ = (ra_c1 [v0, v1] = true ∧ ra_sh S = true ∧ sp [v0, v1] σ (fun r σ' => k L (r.toList ++ S) σ')) := rfl
theorem e_cv2 {sp : ra_Sp} {ci : Nat} {v0 v1 : Value} : w_cv sp 2 ci k L (v1 :: v0 :: S) σ = (ra_hd [v0, v1] = ci + 4 ∧ ra_c1 [v0, v1] = true ∧ ra_sh S = true ∧ sp [v0, v1] σ (fun r σ' => k L (r.toList ++ S) σ')) := rfl
theorem e_cs3 {sp : ra_Sp} {v0 v1 v2 : Value} : w_cs sp 3 k L (v2 :: v1 :: v0 :: S) σ = (ra_c1 [v0, v1, v2] = true ∧ ra_sh S = true ∧ sp [v0, v1, v2] σ (fun r σ' => k L (r.toList ++ S) σ')) := rfl
theorem e_cv3 {sp : ra_Sp} {ci : Nat} {v0 v1 v2 : Value} : w_cv sp 3 ci k L (v2 :: v1 :: v0 :: S) σ = (ra_hd [v0, v1, v2] = ci + 4 ∧ ra_c1 [v0, v1, v2] = true ∧ ra_sh S = true ∧ sp [v0, v1, v2] σ (fun r σ' => k L (r.toList ++ S) σ')) := rfl
theorem e_cs4 {sp : ra_Sp} {v0 v1 v2 v3 : Value} : w_cs sp 4 k L (v3 :: v2 :: v1 :: v0 :: S) σ = (ra_c1 [v0, v1, v2, v3] = true ∧ ra_sh S = true ∧ sp [v0, v1, v2, v3] σ (fun r σ' => k L (r.toList ++ S) σ')) := rfl
theorem e_cv4 {sp : ra_Sp} {ci : Nat} {v0 v1 v2 v3 : Value} : w_cv sp 4 ci k L (v3 :: v2 :: v1 :: v0 :: S) σ = (ra_hd [v0, v1, v2, v3] = ci + 4 ∧ ra_c1 [v0, v1, v2, v3] = true ∧ ra_sh S = true ∧ sp [v0, v1, v2, v3] σ (fun r σ' => k L (r.toList ++ S) σ')) := rfl
theorem e_cs5 {sp : ra_Sp} {v0 v1 v2 v3 v4 : Value} : w_cs sp 5 k L (v4 :: v3 :: v2 :: v1 :: v0 :: S) σ = (ra_c1 [v0, v1, v2, v3, v4] = true ∧ ra_sh S = true ∧ sp [v0, v1, v2, v3, v4] σ (fun r σ' => k L (r.toList ++ S) σ')) := rfl
theorem e_cv5 {sp : ra_Sp} {ci : Nat} {v0 v1 v2 v3 v4 : Value} : w_cv sp 5 ci k L (v4 :: v3 :: v2 :: v1 :: v0 :: S) σ = (ra_hd [v0, v1, v2, v3, v4] = ci + 4 ∧ ra_c1 [v0, v1, v2, v3, v4] = true ∧ ra_sh S = true ∧ sp [v0, v1, v2, v3, v4] σ (fun r σ' => k L (r.toList ++ S) σ')) := rfl
theorem e_cs6 {sp : ra_Sp} {v0 v1 v2 v3 v4 v5 : Value} : w_cs sp 6 k L (v5 :: v4 :: v3 :: v2 :: v1 :: v0 :: S) σ = (ra_c1 [v0, v1, v2, v3, v4, v5] = true ∧ ra_sh S = true ∧ sp [v0, v1, v2, v3, v4, v5] σ (fun r σ' => k L (r.toList ++ S) σ')) := rfl
theorem e_cv6 {sp : ra_Sp} {ci : Nat} {v0 v1 v2 v3 v4 v5 : Value} : w_cv sp 6 ci k L (v5 :: v4 :: v3 :: v2 :: v1 :: v0 :: S) σ = (ra_hd [v0, v1, v2, v3, v4, v5] = ci + 4 ∧ ra_c1 [v0, v1, v2, v3, v4, v5] = true ∧ ra_sh S = true ∧ sp [v0, v1, v2, v3, v4, v5] σ (fun r σ' => k L (r.toList ++ S) σ')) := rfl
theorem e_hd {a : Nat} {l : List Value} : ra_hd (.ref a :: l) = ra_cls a := rfl
theorem e_c10 : ra_c1 [] = true := rfl
theorem e_c1i {x : Int32} {l : List Value} : ra_c1 (.int x :: l) = ra_c1 l := rfl
theorem e_c1r {x : Nat} {l : List Value} : ra_c1 (.ref x :: l) = ra_c1 l := rfl
theorem e_sh0 : ra_sh [] = true := rfl
theorem e_sh1 {a : Value} : ra_sh [a] = true := rfl
theorem e_sh2 {a b : Value} : ra_sh [a, b] = true := rfl
theorem e_sh3 {a b c : Value} : ra_sh [a, b, c] = true := rfl
theorem e_sh4 {a b c d : Value} : ra_sh [a, b, c, d] = true := rfl
theorem e_tls {v : Value} {S : List Value} : (some v).toList ++ S = v :: S := rfl
theorem e_tl0 {v : Value} : (some v).toList = [v] := rfl
theorem e_tl1 : (none : Option Value).toList = [] := rfl
theorem e_tln {S : List Value} : (none : Option Value).toList ++ S = S := rfl
end RAE
def ra_f0 (o : Nat) (P : ra_St → ra_R → Prop) : ra_Sp := fun as σ Z => match as with
  | [.ref a] => a = o ∧ P σ Z
  | _ => False
def ra_f1 (o : Nat) (P : Int32 → ra_St → ra_R → Prop) : ra_Sp := fun as σ Z => match as with
  | [.ref a, .int x] => a = o ∧ P x σ Z
  | _ => False
def ra_f2 (o : Nat) (P : Int32 → Int32 → ra_St → ra_R → Prop) : ra_Sp := fun as σ Z => match as with
  | [.ref a, .int x, .int y] => a = o ∧ P x y σ Z
  | _ => False
def ra_f3 (o : Nat) (P : Int32 → Int32 → Int32 → ra_St → ra_R → Prop) : ra_Sp := fun as σ Z => match as with
  | [.ref a, .int x, .int y, .int z] => a = o ∧ P x y z σ Z
  | _ => False
def ra_f4 (o : Nat) (P : Int32 → Int32 → Int32 → Int32 → ra_St → ra_R → Prop) : ra_Sp := fun as σ Z => match as with
  | [.ref a, .int x, .int y, .int z, .int w] => a = o ∧ P x y z w σ Z
  | _ => False
def ra_f5 (o : Nat) (P : Int32 → Int32 → Int32 → Int32 → Int32 → ra_St → ra_R → Prop) : ra_Sp := fun as σ Z => match as with
  | [.ref a, .int x, .int y, .int z, .int w, .int u] => a = o ∧ P x y z w u σ Z
  | _ => False
def ra_s1 (P : Int32 → ra_St → ra_R → Prop) : ra_Sp := fun as σ Z => match as with
  | [.int x] => P x σ Z
  | _ => False
def ra_s2 (P : Int32 → Int32 → ra_St → ra_R → Prop) : ra_Sp := fun as σ Z => match as with
  | [.int x, .int y] => P x y σ Z
  | _ => False
def ra_s3 (P : Int32 → Int32 → Int32 → ra_St → ra_R → Prop) : ra_Sp := fun as σ Z => match as with
  | [.int x, .int y, .int z] => P x y z σ Z
  | _ => False
theorem e_f0 {o a : Nat} {P : ra_St → ra_R → Prop} {σ : ra_St} {Z : ra_R} : ra_f0 o P [.ref a] σ Z = (a = o ∧ P σ Z) := rfl
theorem x_f0 {o : Nat} {P : ra_St → ra_R → Prop} {as : List Value} {σ : ra_St} {Z : ra_R} (h : ra_f0 o P as σ Z) : as = [.ref o] ∧ P σ Z := by
  unfold ra_f0 at h
  split at h
  · obtain ⟨rfl, h⟩ := h
    exact ⟨rfl, h⟩
  · exact h.elim
theorem e_f1 {o a : Nat} {P : Int32 → ra_St → ra_R → Prop} {x : Int32} {σ : ra_St} {Z : ra_R} : ra_f1 o P [.ref a, .int x] σ Z = (a = o ∧ P x σ Z) := rfl
theorem x_f1 {o : Nat} {P : Int32 → ra_St → ra_R → Prop} {as : List Value} {σ : ra_St} {Z : ra_R} (h : ra_f1 o P as σ Z) : ∃ x : Int32, as = [.ref o, .int x] ∧ P x σ Z := by
  unfold ra_f1 at h
  split at h
  · obtain ⟨rfl, h⟩ := h
    exact ⟨_, rfl, h⟩
  · exact h.elim
theorem e_f2 {o a : Nat} {P : Int32 → Int32 → ra_St → ra_R → Prop} {x y : Int32} {σ : ra_St} {Z : ra_R} : ra_f2 o P [.ref a, .int x, .int y] σ Z = (a = o ∧ P x y σ Z) := rfl
theorem x_f2 {o : Nat} {P : Int32 → Int32 → ra_St → ra_R → Prop} {as : List Value} {σ : ra_St} {Z : ra_R} (h : ra_f2 o P as σ Z) : ∃ x y : Int32, as = [.ref o, .int x, .int y] ∧ P x y σ Z := by
  unfold ra_f2 at h
  split at h
  · obtain ⟨rfl, h⟩ := h
    exact ⟨_, _, rfl, h⟩
  · exact h.elim
theorem e_f3 {o a : Nat} {P : Int32 → Int32 → Int32 → ra_St → ra_R → Prop} {x y z : Int32} {σ : ra_St} {Z : ra_R} : ra_f3 o P [.ref a, .int x, .int y, .int z] σ Z = (a = o ∧ P x y z σ Z) := rfl
theorem x_f3 {o : Nat} {P : Int32 → Int32 → Int32 → ra_St → ra_R → Prop} {as : List Value} {σ : ra_St} {Z : ra_R} (h : ra_f3 o P as σ Z) : ∃ x y z : Int32, as = [.ref o, .int x, .int y, .int z] ∧ P x y z σ Z := by
  unfold ra_f3 at h
  split at h
  · obtain ⟨rfl, h⟩ := h
    exact ⟨_, _, _, rfl, h⟩
  · exact h.elim
theorem e_f4 {o a : Nat} {P : Int32 → Int32 → Int32 → Int32 → ra_St → ra_R → Prop} {x y z w : Int32} {σ : ra_St} {Z : ra_R} : ra_f4 o P [.ref a, .int x, .int y, .int z, .int w] σ Z = (a = o ∧ P x y z w σ Z) := rfl
theorem x_f4 {o : Nat} {P : Int32 → Int32 → Int32 → Int32 → ra_St → ra_R → Prop} {as : List Value} {σ : ra_St} {Z : ra_R} (h : ra_f4 o P as σ Z) : ∃ x y z w : Int32, as = [.ref o, .int x, .int y, .int z, .int w] ∧ P x y z w σ Z := by
  unfold ra_f4 at h
  split at h
  · obtain ⟨rfl, h⟩ := h
    exact ⟨_, _, _, _, rfl, h⟩
  · exact h.elim
theorem e_f5 {o a : Nat} {P : Int32 → Int32 → Int32 → Int32 → Int32 → ra_St → ra_R → Prop} {x y z w u : Int32} {σ : ra_St} {Z : ra_R} : ra_f5 o P [.ref a, .int x, .int y, .int z, .int w, .int u] σ Z = (a = o ∧ P x y z w u σ Z) := rfl
theorem x_f5 {o : Nat} {P : Int32 → Int32 → Int32 → Int32 → Int32 → ra_St → ra_R → Prop} {as : List Value} {σ : ra_St} {Z : ra_R} (h : ra_f5 o P as σ Z) : ∃ x y z w u : Int32, as = [.ref o, .int x, .int y, .int z, .int w, .int u] ∧ P x y z w u σ Z := by
  unfold ra_f5 at h
  split at h
  · obtain ⟨rfl, h⟩ := h
    exact ⟨_, _, _, _, _, rfl, h⟩
  · exact h.elim
theorem e_s1 {P : Int32 → ra_St → ra_R → Prop} {x : Int32} {σ : ra_St} {Z : ra_R} : ra_s1 P [.int x] σ Z = (P x σ Z) := rfl
theorem x_s1 {P : Int32 → ra_St → ra_R → Prop} {as : List Value} {σ : ra_St} {Z : ra_R} (h : ra_s1 P as σ Z) : ∃ x : Int32, as = [.int x] ∧ P x σ Z := by
  unfold ra_s1 at h
  split at h
  · exact ⟨_, rfl, h⟩
  · exact h.elim
theorem e_s2 {P : Int32 → Int32 → ra_St → ra_R → Prop} {x y : Int32} {σ : ra_St} {Z : ra_R} : ra_s2 P [.int x, .int y] σ Z = (P x y σ Z) := rfl
theorem x_s2 {P : Int32 → Int32 → ra_St → ra_R → Prop} {as : List Value} {σ : ra_St} {Z : ra_R} (h : ra_s2 P as σ Z) : ∃ x y : Int32, as = [.int x, .int y] ∧ P x y σ Z := by
  unfold ra_s2 at h
  split at h
  · exact ⟨_, _, rfl, h⟩
  · exact h.elim
theorem e_s3 {P : Int32 → Int32 → Int32 → ra_St → ra_R → Prop} {x y z : Int32} {σ : ra_St} {Z : ra_R} : ra_s3 P [.int x, .int y, .int z] σ Z = (P x y z σ Z) := rfl
theorem x_s3 {P : Int32 → Int32 → Int32 → ra_St → ra_R → Prop} {as : List Value} {σ : ra_St} {Z : ra_R} (h : ra_s3 P as σ Z) : ∃ x y z : Int32, as = [.int x, .int y, .int z] ∧ P x y z σ Z := by
  unfold ra_s3 at h
  split at h
  · exact ⟨_, _, _, rfl, h⟩
  · exact h.elim
theorem cl_0 : ra_cls 0 = 4 := rfl
theorem tg_0_0 : ra_tgt 0 0 = 1 := rfl
theorem tg_0_1 : ra_tgt 0 1 = 12 := rfl
theorem tg_0_2 : ra_tgt 0 2 = 14 := rfl
theorem tg_0_3 : ra_tgt 0 3 = 28 := rfl
theorem tg_0_4 : ra_tgt 0 4 = 41 := rfl
theorem tg_0_5 : ra_tgt 0 5 = 54 := rfl
theorem tg_0_6 : ra_tgt 0 6 = 70 := rfl
theorem tg_0_7 : ra_tgt 0 7 = 72 := rfl
theorem tg_0_8 : ra_tgt 0 8 = 73 := rfl
theorem cl_1 : ra_cls 1 = 5 := rfl
theorem tg_1_0 : ra_tgt 1 0 = 2 := rfl
theorem tg_1_1 : ra_tgt 1 1 = 4 := rfl
theorem tg_1_2 : ra_tgt 1 2 = 6 := rfl
theorem tg_1_3 : ra_tgt 1 3 = 7 := rfl
theorem tg_1_4 : ra_tgt 1 4 = 8 := rfl
theorem tg_1_5 : ra_tgt 1 5 = 9 := rfl
theorem tg_1_6 : ra_tgt 1 6 = 10 := rfl
theorem tg_1_7 : ra_tgt 1 7 = 11 := rfl
theorem cl_2 : ra_cls 2 = 6 := rfl
theorem tg_2_0 : ra_tgt 2 0 = 3 := rfl
theorem cl_3 : ra_cls 3 = 0 := rfl
theorem ln_3 : ra_len 3 = 40 := rfl
theorem cl_4 : ra_cls 4 = 6 := rfl
theorem tg_4_0 : ra_tgt 4 0 = 5 := rfl
theorem cl_5 : ra_cls 5 = 0 := rfl
theorem ln_5 : ra_len 5 = 40 := rfl
theorem cl_6 : ra_cls 6 = 0 := rfl
theorem ln_6 : ra_len 6 = 8 := rfl
theorem cl_7 : ra_cls 7 = 0 := rfl
theorem ln_7 : ra_len 7 = 8 := rfl
theorem cl_8 : ra_cls 8 = 0 := rfl
theorem ln_8 : ra_len 8 = 8 := rfl
theorem cl_9 : ra_cls 9 = 0 := rfl
theorem ln_9 : ra_len 9 = 8 := rfl
theorem cl_10 : ra_cls 10 = 0 := rfl
theorem ln_10 : ra_len 10 = 8 := rfl
theorem cl_11 : ra_cls 11 = 0 := rfl
theorem ln_11 : ra_len 11 = 8 := rfl
theorem cl_12 : ra_cls 12 = 7 := rfl
theorem tg_12_0 : ra_tgt 12 0 = 13 := rfl
theorem cl_13 : ra_cls 13 = 0 := rfl
theorem ln_13 : ra_len 13 = 12 := rfl
theorem cl_14 : ra_cls 14 = 9 := rfl
theorem tg_14_0 : ra_tgt 14 0 = 1 := rfl
theorem tg_14_1 : ra_tgt 14 1 = 12 := rfl
theorem tg_14_2 : ra_tgt 14 2 = 15 := rfl
theorem tg_14_3 : ra_tgt 14 3 = 23 := rfl
theorem cl_15 : ra_cls 15 = 8 := rfl
theorem tg_15_0 : ra_tgt 15 0 = 1 := rfl
theorem tg_15_1 : ra_tgt 15 1 = 12 := rfl
theorem tg_15_2 : ra_tgt 15 2 = 16 := rfl
theorem tg_15_3 : ra_tgt 15 3 = 17 := rfl
theorem tg_15_4 : ra_tgt 15 4 = 18 := rfl
theorem tg_15_5 : ra_tgt 15 5 = 19 := rfl
theorem tg_15_6 : ra_tgt 15 6 = 20 := rfl
theorem tg_15_7 : ra_tgt 15 7 = 21 := rfl
theorem tg_15_8 : ra_tgt 15 8 = 22 := rfl
theorem cl_16 : ra_cls 16 = 0 := rfl
theorem ln_16 : ra_len 16 = 8 := rfl
theorem cl_17 : ra_cls 17 = 0 := rfl
theorem ln_17 : ra_len 17 = 8 := rfl
theorem cl_18 : ra_cls 18 = 0 := rfl
theorem ln_18 : ra_len 18 = 8 := rfl
theorem cl_19 : ra_cls 19 = 0 := rfl
theorem ln_19 : ra_len 19 = 8 := rfl
theorem cl_20 : ra_cls 20 = 0 := rfl
theorem ln_20 : ra_len 20 = 8 := rfl
theorem cl_21 : ra_cls 21 = 0 := rfl
theorem ln_21 : ra_len 21 = 8 := rfl
theorem cl_22 : ra_cls 22 = 0 := rfl
theorem ln_22 : ra_len 22 = 8 := rfl
theorem cl_23 : ra_cls 23 = 2 := rfl
theorem ln_23 : ra_len 23 = 4 := rfl
theorem tg_23_0 : ra_tgt 23 0 = 24 := rfl
theorem tg_23_1 : ra_tgt 23 1 = 25 := rfl
theorem tg_23_2 : ra_tgt 23 2 = 26 := rfl
theorem tg_23_3 : ra_tgt 23 3 = 27 := rfl
theorem cl_24 : ra_cls 24 = 0 := rfl
theorem ln_24 : ra_len 24 = 104 := rfl
theorem cl_25 : ra_cls 25 = 0 := rfl
theorem ln_25 : ra_len 25 = 104 := rfl
theorem cl_26 : ra_cls 26 = 0 := rfl
theorem ln_26 : ra_len 26 = 104 := rfl
theorem cl_27 : ra_cls 27 = 0 := rfl
theorem ln_27 : ra_len 27 = 104 := rfl
theorem cl_28 : ra_cls 28 = 10 := rfl
theorem tg_28_0 : ra_tgt 28 0 = 1 := rfl
theorem tg_28_1 : ra_tgt 28 1 = 12 := rfl
theorem tg_28_2 : ra_tgt 28 2 = 29 := rfl
theorem tg_28_3 : ra_tgt 28 3 = 37 := rfl
theorem tg_28_4 : ra_tgt 28 4 = 38 := rfl
theorem tg_28_5 : ra_tgt 28 5 = 39 := rfl
theorem tg_28_6 : ra_tgt 28 6 = 40 := rfl
theorem cl_29 : ra_cls 29 = 8 := rfl
theorem tg_29_0 : ra_tgt 29 0 = 1 := rfl
theorem tg_29_1 : ra_tgt 29 1 = 12 := rfl
theorem tg_29_2 : ra_tgt 29 2 = 30 := rfl
theorem tg_29_3 : ra_tgt 29 3 = 31 := rfl
theorem tg_29_4 : ra_tgt 29 4 = 32 := rfl
theorem tg_29_5 : ra_tgt 29 5 = 33 := rfl
theorem tg_29_6 : ra_tgt 29 6 = 34 := rfl
theorem tg_29_7 : ra_tgt 29 7 = 35 := rfl
theorem tg_29_8 : ra_tgt 29 8 = 36 := rfl
theorem cl_30 : ra_cls 30 = 0 := rfl
theorem ln_30 : ra_len 30 = 8 := rfl
theorem cl_31 : ra_cls 31 = 0 := rfl
theorem ln_31 : ra_len 31 = 8 := rfl
theorem cl_32 : ra_cls 32 = 0 := rfl
theorem ln_32 : ra_len 32 = 8 := rfl
theorem cl_33 : ra_cls 33 = 0 := rfl
theorem ln_33 : ra_len 33 = 8 := rfl
theorem cl_34 : ra_cls 34 = 0 := rfl
theorem ln_34 : ra_len 34 = 8 := rfl
theorem cl_35 : ra_cls 35 = 0 := rfl
theorem ln_35 : ra_len 35 = 8 := rfl
theorem cl_36 : ra_cls 36 = 0 := rfl
theorem ln_36 : ra_len 36 = 8 := rfl
theorem cl_37 : ra_cls 37 = 0 := rfl
theorem ln_37 : ra_len 37 = 8 := rfl
theorem cl_38 : ra_cls 38 = 0 := rfl
theorem ln_38 : ra_len 38 = 8 := rfl
theorem cl_39 : ra_cls 39 = 0 := rfl
theorem ln_39 : ra_len 39 = 8 := rfl
theorem cl_40 : ra_cls 40 = 0 := rfl
theorem ln_40 : ra_len 40 = 32 := rfl
theorem cl_41 : ra_cls 41 = 11 := rfl
theorem tg_41_0 : ra_tgt 41 0 = 1 := rfl
theorem tg_41_1 : ra_tgt 41 1 = 42 := rfl
theorem tg_41_2 : ra_tgt 41 2 = 51 := rfl
theorem tg_41_3 : ra_tgt 41 3 = 52 := rfl
theorem tg_41_4 : ra_tgt 41 4 = 53 := rfl
theorem cl_42 : ra_cls 42 = 2 := rfl
theorem ln_42 : ra_len 42 = 8 := rfl
theorem tg_42_0 : ra_tgt 42 0 = 43 := rfl
theorem tg_42_1 : ra_tgt 42 1 = 44 := rfl
theorem tg_42_2 : ra_tgt 42 2 = 45 := rfl
theorem tg_42_3 : ra_tgt 42 3 = 46 := rfl
theorem tg_42_4 : ra_tgt 42 4 = 47 := rfl
theorem tg_42_5 : ra_tgt 42 5 = 48 := rfl
theorem tg_42_6 : ra_tgt 42 6 = 49 := rfl
theorem tg_42_7 : ra_tgt 42 7 = 50 := rfl
theorem cl_43 : ra_cls 43 = 0 := rfl
theorem ln_43 : ra_len 43 = 8 := rfl
theorem cl_44 : ra_cls 44 = 0 := rfl
theorem ln_44 : ra_len 44 = 8 := rfl
theorem cl_45 : ra_cls 45 = 0 := rfl
theorem ln_45 : ra_len 45 = 8 := rfl
theorem cl_46 : ra_cls 46 = 0 := rfl
theorem ln_46 : ra_len 46 = 8 := rfl
theorem cl_47 : ra_cls 47 = 0 := rfl
theorem ln_47 : ra_len 47 = 8 := rfl
theorem cl_48 : ra_cls 48 = 0 := rfl
theorem ln_48 : ra_len 48 = 8 := rfl
theorem cl_49 : ra_cls 49 = 0 := rfl
theorem ln_49 : ra_len 49 = 8 := rfl
theorem cl_50 : ra_cls 50 = 0 := rfl
theorem ln_50 : ra_len 50 = 8 := rfl
theorem cl_51 : ra_cls 51 = 0 := rfl
theorem ln_51 : ra_len 51 = 8 := rfl
theorem cl_52 : ra_cls 52 = 0 := rfl
theorem ln_52 : ra_len 52 = 8 := rfl
theorem cl_53 : ra_cls 53 = 0 := rfl
theorem ln_53 : ra_len 53 = 256 := rfl
theorem cl_54 : ra_cls 54 = 12 := rfl
theorem tg_54_0 : ra_tgt 54 0 = 1 := rfl
theorem tg_54_1 : ra_tgt 54 1 = 55 := rfl
theorem tg_54_2 : ra_tgt 54 2 = 56 := rfl
theorem tg_54_3 : ra_tgt 54 3 = 57 := rfl
theorem tg_54_4 : ra_tgt 54 4 = 58 := rfl
theorem tg_54_5 : ra_tgt 54 5 = 59 := rfl
theorem tg_54_6 : ra_tgt 54 6 = 60 := rfl
theorem tg_54_7 : ra_tgt 54 7 = 61 := rfl
theorem cl_55 : ra_cls 55 = 0 := rfl
theorem ln_55 : ra_len 55 = 12 := rfl
theorem cl_56 : ra_cls 56 = 0 := rfl
theorem ln_56 : ra_len 56 = 12 := rfl
theorem cl_57 : ra_cls 57 = 0 := rfl
theorem ln_57 : ra_len 57 = 12 := rfl
theorem cl_58 : ra_cls 58 = 0 := rfl
theorem ln_58 : ra_len 58 = 8 := rfl
theorem cl_59 : ra_cls 59 = 0 := rfl
theorem ln_59 : ra_len 59 = 256 := rfl
theorem cl_60 : ra_cls 60 = 0 := rfl
theorem ln_60 : ra_len 60 = 256 := rfl
theorem cl_61 : ra_cls 61 = 2 := rfl
theorem ln_61 : ra_len 61 = 8 := rfl
theorem tg_61_0 : ra_tgt 61 0 = 62 := rfl
theorem tg_61_1 : ra_tgt 61 1 = 63 := rfl
theorem tg_61_2 : ra_tgt 61 2 = 64 := rfl
theorem tg_61_3 : ra_tgt 61 3 = 65 := rfl
theorem tg_61_4 : ra_tgt 61 4 = 66 := rfl
theorem tg_61_5 : ra_tgt 61 5 = 67 := rfl
theorem tg_61_6 : ra_tgt 61 6 = 68 := rfl
theorem tg_61_7 : ra_tgt 61 7 = 69 := rfl
theorem cl_62 : ra_cls 62 = 0 := rfl
theorem ln_62 : ra_len 62 = 8 := rfl
theorem cl_63 : ra_cls 63 = 0 := rfl
theorem ln_63 : ra_len 63 = 8 := rfl
theorem cl_64 : ra_cls 64 = 0 := rfl
theorem ln_64 : ra_len 64 = 8 := rfl
theorem cl_65 : ra_cls 65 = 0 := rfl
theorem ln_65 : ra_len 65 = 8 := rfl
theorem cl_66 : ra_cls 66 = 0 := rfl
theorem ln_66 : ra_len 66 = 8 := rfl
theorem cl_67 : ra_cls 67 = 0 := rfl
theorem ln_67 : ra_len 67 = 8 := rfl
theorem cl_68 : ra_cls 68 = 0 := rfl
theorem ln_68 : ra_len 68 = 8 := rfl
theorem cl_69 : ra_cls 69 = 0 := rfl
theorem ln_69 : ra_len 69 = 8 := rfl
theorem cl_70 : ra_cls 70 = 13 := rfl
theorem tg_70_0 : ra_tgt 70 0 = 1 := rfl
theorem tg_70_1 : ra_tgt 70 1 = 12 := rfl
theorem tg_70_2 : ra_tgt 70 2 = 71 := rfl
theorem cl_71 : ra_cls 71 = 0 := rfl
theorem ln_71 : ra_len 71 = 8 := rfl
theorem cl_72 : ra_cls 72 = 0 := rfl
theorem ln_72 : ra_len 72 = 8 := rfl
theorem cl_73 : ra_cls 73 = 3 := rfl
theorem ln_73 : ra_len 73 = 4 := rfl
theorem tg_73_0 : ra_tgt 73 0 = 74 := rfl
theorem tg_73_1 : ra_tgt 73 1 = 76 := rfl
theorem tg_73_2 : ra_tgt 73 2 = 78 := rfl
theorem tg_73_3 : ra_tgt 73 3 = 80 := rfl
theorem cl_74 : ra_cls 74 = 14 := rfl
theorem tg_74_0 : ra_tgt 74 0 = 75 := rfl
theorem cl_75 : ra_cls 75 = 0 := rfl
theorem ln_75 : ra_len 75 = 48 := rfl
theorem cl_76 : ra_cls 76 = 14 := rfl
theorem tg_76_0 : ra_tgt 76 0 = 77 := rfl
theorem cl_77 : ra_cls 77 = 0 := rfl
theorem ln_77 : ra_len 77 = 48 := rfl
theorem cl_78 : ra_cls 78 = 14 := rfl
theorem tg_78_0 : ra_tgt 78 0 = 79 := rfl
theorem cl_79 : ra_cls 79 = 0 := rfl
theorem ln_79 : ra_len 79 = 48 := rfl
theorem cl_80 : ra_cls 80 = 14 := rfl
theorem tg_80_0 : ra_tgt 80 0 = 81 := rfl
theorem cl_81 : ra_cls 81 = 0 := rfl
theorem ln_81 : ra_len 81 = 48 := rfl
theorem cl_82 : ra_cls 82 = 15 := rfl
theorem tg_82_0 : ra_tgt 82 0 = 83 := rfl
theorem tg_82_1 : ra_tgt 82 1 = 84 := rfl
theorem tg_82_3 : ra_tgt 82 3 = 85 := rfl
theorem tg_82_4 : ra_tgt 82 4 = 86 := rfl
theorem tg_82_5 : ra_tgt 82 5 = 87 := rfl
theorem tg_82_6 : ra_tgt 82 6 = 88 := rfl
theorem tg_82_8 : ra_tgt 82 8 = 89 := rfl
theorem tg_82_9 : ra_tgt 82 9 = 90 := rfl
theorem tg_82_10 : ra_tgt 82 10 = 91 := rfl
theorem tg_82_11 : ra_tgt 82 11 = 92 := rfl
theorem tg_82_12 : ra_tgt 82 12 = 93 := rfl
theorem tg_82_13 : ra_tgt 82 13 = 94 := rfl
theorem tg_82_14 : ra_tgt 82 14 = 95 := rfl
theorem tg_82_15 : ra_tgt 82 15 = 96 := rfl
theorem tg_82_16 : ra_tgt 82 16 = 97 := rfl
theorem tg_82_17 : ra_tgt 82 17 = 98 := rfl
theorem tg_82_18 : ra_tgt 82 18 = 99 := rfl
theorem tg_82_19 : ra_tgt 82 19 = 100 := rfl
theorem tg_82_20 : ra_tgt 82 20 = 101 := rfl
theorem tg_82_21 : ra_tgt 82 21 = 102 := rfl
theorem tg_82_23 : ra_tgt 82 23 = 103 := rfl
theorem tg_82_24 : ra_tgt 82 24 = 104 := rfl
theorem tg_82_25 : ra_tgt 82 25 = 105 := rfl
theorem tg_82_26 : ra_tgt 82 26 = 106 := rfl
theorem tg_82_27 : ra_tgt 82 27 = 107 := rfl
theorem tg_82_28 : ra_tgt 82 28 = 108 := rfl
theorem tg_82_29 : ra_tgt 82 29 = 109 := rfl
theorem tg_82_30 : ra_tgt 82 30 = 110 := rfl
theorem tg_82_31 : ra_tgt 82 31 = 111 := rfl
theorem tg_82_32 : ra_tgt 82 32 = 112 := rfl
theorem cl_83 : ra_cls 83 = 0 := rfl
theorem ln_83 : ra_len 83 = 2 := rfl
theorem cl_84 : ra_cls 84 = 0 := rfl
theorem ln_84 : ra_len 84 = 80 := rfl
theorem cl_85 : ra_cls 85 = 0 := rfl
theorem ln_85 : ra_len 85 = 9 := rfl
theorem cl_86 : ra_cls 86 = 0 := rfl
theorem ln_86 : ra_len 86 = 9 := rfl
theorem cl_87 : ra_cls 87 = 0 := rfl
theorem ln_87 : ra_len 87 = 9 := rfl
theorem cl_88 : ra_cls 88 = 0 := rfl
theorem ln_88 : ra_len 88 = 9 := rfl
theorem cl_89 : ra_cls 89 = 0 := rfl
theorem ln_89 : ra_len 89 = 12 := rfl
theorem cl_90 : ra_cls 90 = 0 := rfl
theorem ln_90 : ra_len 90 = 2 := rfl
theorem cl_91 : ra_cls 91 = 0 := rfl
theorem ln_91 : ra_len 91 = 8 := rfl
theorem cl_92 : ra_cls 92 = 0 := rfl
theorem ln_92 : ra_len 92 = 9 := rfl
theorem cl_93 : ra_cls 93 = 0 := rfl
theorem ln_93 : ra_len 93 = 9 := rfl
theorem cl_94 : ra_cls 94 = 0 := rfl
theorem ln_94 : ra_len 94 = 9 := rfl
theorem cl_95 : ra_cls 95 = 0 := rfl
theorem ln_95 : ra_len 95 = 9 := rfl
theorem cl_96 : ra_cls 96 = 0 := rfl
theorem ln_96 : ra_len 96 = 9 := rfl
theorem cl_97 : ra_cls 97 = 0 := rfl
theorem ln_97 : ra_len 97 = 9 := rfl
theorem cl_98 : ra_cls 98 = 0 := rfl
theorem ln_98 : ra_len 98 = 9 := rfl
theorem cl_99 : ra_cls 99 = 0 := rfl
theorem ln_99 : ra_len 99 = 9 := rfl
theorem cl_100 : ra_cls 100 = 0 := rfl
theorem ln_100 : ra_len 100 = 64 := rfl
theorem cl_101 : ra_cls 101 = 0 := rfl
theorem ln_101 : ra_len 101 = 9 := rfl
theorem cl_102 : ra_cls 102 = 0 := rfl
theorem ln_102 : ra_len 102 = 2304 := rfl
theorem cl_103 : ra_cls 103 = 0 := rfl
theorem ln_103 : ra_len 103 = 12 := rfl
theorem cl_104 : ra_cls 104 = 0 := rfl
theorem ln_104 : ra_len 104 = 12 := rfl
theorem cl_105 : ra_cls 105 = 0 := rfl
theorem ln_105 : ra_len 105 = 12 := rfl
theorem cl_106 : ra_cls 106 = 0 := rfl
theorem ln_106 : ra_len 106 = 9 := rfl
theorem cl_107 : ra_cls 107 = 0 := rfl
theorem ln_107 : ra_len 107 = 256 := rfl
theorem cl_108 : ra_cls 108 = 1 := rfl
theorem ln_108 : ra_len 108 = 4 := rfl
theorem cl_109 : ra_cls 109 = 0 := rfl
theorem ln_109 : ra_len 109 = 4 := rfl
theorem cl_110 : ra_cls 110 = 0 := rfl
theorem ln_110 : ra_len 110 = 4 := rfl
theorem cl_111 : ra_cls 111 = 0 := rfl
theorem ln_111 : ra_len 111 = 192 := rfl
theorem cl_112 : ra_cls 112 = 0 := rfl
theorem ln_112 : ra_len 112 = 48 := rfl
