/-! ===== words of the classes ===== -/
theorem in_X0 : ∀ w ∈ u_ws RX0 TX0 12, w ∈ wT := by decide +kernel
theorem in_X1 : ∀ w ∈ u_ws RX1 TX1 2, w ∈ wT := by decide +kernel
theorem in_X2 : ∀ w ∈ u_ws RX2 TX2 2, w ∈ wT := by decide +kernel
theorem in_X3 : ∀ w ∈ u_ws RX3 TX3 3, w ∈ wT := by decide +kernel
theorem in_X4 : ∀ w ∈ u_ws RX4 TX4 9, w ∈ wT := by decide +kernel
theorem in_Jx4a65c : ∀ w ∈ u_ws RJx4a65c TJx4a65c 3, w ∈ wT := by decide +kernel
theorem in_X5 : ∀ w ∈ u_ws RX5 TX5 27, w ∈ wT := by decide +kernel
/-! ===== writes, as the heap sees them ===== -/
theorem pu_I0 {E : Ev} {S : HS} {a : Nat} (h : S.K a = 0) (v : Int32) (b : Nat) : pF E (S.sI 0 a v) b = va_up (pF E S) a (.inr (3, [.int v, .int (S.I 1 a), .int (S.I 2 a), .int (S.I 3 a), va_rf (S.P 0 a), va_rf (S.P 1 a), .long (S.J 0 a), .long (S.J 1 a), .int (S.I 4 a), .int (S.I 5 a), .int (S.I 6 a), .int (S.I 7 a)])) b := by
  by_cases hb : b = a
  · subst hb; rw [va_up_self, pF_0 (S := S.sI 0 b v) h]; simp [HS.sI, HS.I, HS.J, HS.P, u2]
  · rw [va_up_ne _ _ hb]; simp only [pF, HS.sI, HS.I, HS.J, HS.P, HS.K, HS.N, HS.R, HS.O, u2, hb, and_false, if_false]
theorem pu_I1 {E : Ev} {S : HS} {a : Nat} (h : S.K a = 0) (v : Int32) (b : Nat) : pF E (S.sI 1 a v) b = va_up (pF E S) a (.inr (3, [.int (S.I 0 a), .int v, .int (S.I 2 a), .int (S.I 3 a), va_rf (S.P 0 a), va_rf (S.P 1 a), .long (S.J 0 a), .long (S.J 1 a), .int (S.I 4 a), .int (S.I 5 a), .int (S.I 6 a), .int (S.I 7 a)])) b := by
  by_cases hb : b = a
  · subst hb; rw [va_up_self, pF_0 (S := S.sI 1 b v) h]; simp [HS.sI, HS.I, HS.J, HS.P, u2]
  · rw [va_up_ne _ _ hb]; simp only [pF, HS.sI, HS.I, HS.J, HS.P, HS.K, HS.N, HS.R, HS.O, u2, hb, and_false, if_false]
theorem pu_I2 {E : Ev} {S : HS} {a : Nat} (h : S.K a = 0) (v : Int32) (b : Nat) : pF E (S.sI 2 a v) b = va_up (pF E S) a (.inr (3, [.int (S.I 0 a), .int (S.I 1 a), .int v, .int (S.I 3 a), va_rf (S.P 0 a), va_rf (S.P 1 a), .long (S.J 0 a), .long (S.J 1 a), .int (S.I 4 a), .int (S.I 5 a), .int (S.I 6 a), .int (S.I 7 a)])) b := by
  by_cases hb : b = a
  · subst hb; rw [va_up_self, pF_0 (S := S.sI 2 b v) h]; simp [HS.sI, HS.I, HS.J, HS.P, u2]
  · rw [va_up_ne _ _ hb]; simp only [pF, HS.sI, HS.I, HS.J, HS.P, HS.K, HS.N, HS.R, HS.O, u2, hb, and_false, if_false]
theorem pu_I3 {E : Ev} {S : HS} {a : Nat} (h : S.K a = 0) (v : Int32) (b : Nat) : pF E (S.sI 3 a v) b = va_up (pF E S) a (.inr (3, [.int (S.I 0 a), .int (S.I 1 a), .int (S.I 2 a), .int v, va_rf (S.P 0 a), va_rf (S.P 1 a), .long (S.J 0 a), .long (S.J 1 a), .int (S.I 4 a), .int (S.I 5 a), .int (S.I 6 a), .int (S.I 7 a)])) b := by
  by_cases hb : b = a
  · subst hb; rw [va_up_self, pF_0 (S := S.sI 3 b v) h]; simp [HS.sI, HS.I, HS.J, HS.P, u2]
  · rw [va_up_ne _ _ hb]; simp only [pF, HS.sI, HS.I, HS.J, HS.P, HS.K, HS.N, HS.R, HS.O, u2, hb, and_false, if_false]
theorem pu_P0 {E : Ev} {S : HS} {a : Nat} (h : S.K a = 0) (v : Option Nat) (b : Nat) : pF E (S.sP 0 a v) b = va_up (pF E S) a (.inr (3, [.int (S.I 0 a), .int (S.I 1 a), .int (S.I 2 a), .int (S.I 3 a), va_rf v, va_rf (S.P 1 a), .long (S.J 0 a), .long (S.J 1 a), .int (S.I 4 a), .int (S.I 5 a), .int (S.I 6 a), .int (S.I 7 a)])) b := by
  by_cases hb : b = a
  · subst hb; rw [va_up_self, pF_0 (S := S.sP 0 b v) h]; simp [HS.sP, HS.I, HS.J, HS.P, u2]
  · rw [va_up_ne _ _ hb]; simp only [pF, HS.sP, HS.I, HS.J, HS.P, HS.K, HS.N, HS.R, HS.O, u2, hb, and_false, if_false]
theorem pu_P1 {E : Ev} {S : HS} {a : Nat} (h : S.K a = 0) (v : Option Nat) (b : Nat) : pF E (S.sP 1 a v) b = va_up (pF E S) a (.inr (3, [.int (S.I 0 a), .int (S.I 1 a), .int (S.I 2 a), .int (S.I 3 a), va_rf (S.P 0 a), va_rf v, .long (S.J 0 a), .long (S.J 1 a), .int (S.I 4 a), .int (S.I 5 a), .int (S.I 6 a), .int (S.I 7 a)])) b := by
  by_cases hb : b = a
  · subst hb; rw [va_up_self, pF_0 (S := S.sP 1 b v) h]; simp [HS.sP, HS.I, HS.J, HS.P, u2]
  · rw [va_up_ne _ _ hb]; simp only [pF, HS.sP, HS.I, HS.J, HS.P, HS.K, HS.N, HS.R, HS.O, u2, hb, and_false, if_false]
theorem pu_J0 {E : Ev} {S : HS} {a : Nat} (h : S.K a = 0) (v : Int64) (b : Nat) : pF E (S.sJ 0 a v) b = va_up (pF E S) a (.inr (3, [.int (S.I 0 a), .int (S.I 1 a), .int (S.I 2 a), .int (S.I 3 a), va_rf (S.P 0 a), va_rf (S.P 1 a), .long v, .long (S.J 1 a), .int (S.I 4 a), .int (S.I 5 a), .int (S.I 6 a), .int (S.I 7 a)])) b := by
  by_cases hb : b = a
  · subst hb; rw [va_up_self, pF_0 (S := S.sJ 0 b v) h]; simp [HS.sJ, HS.I, HS.J, HS.P, u2]
  · rw [va_up_ne _ _ hb]; simp only [pF, HS.sJ, HS.I, HS.J, HS.P, HS.K, HS.N, HS.R, HS.O, u2, hb, and_false, if_false]
theorem pu_J1 {E : Ev} {S : HS} {a : Nat} (h : S.K a = 0) (v : Int64) (b : Nat) : pF E (S.sJ 1 a v) b = va_up (pF E S) a (.inr (3, [.int (S.I 0 a), .int (S.I 1 a), .int (S.I 2 a), .int (S.I 3 a), va_rf (S.P 0 a), va_rf (S.P 1 a), .long (S.J 0 a), .long v, .int (S.I 4 a), .int (S.I 5 a), .int (S.I 6 a), .int (S.I 7 a)])) b := by
  by_cases hb : b = a
  · subst hb; rw [va_up_self, pF_0 (S := S.sJ 1 b v) h]; simp [HS.sJ, HS.I, HS.J, HS.P, u2]
  · rw [va_up_ne _ _ hb]; simp only [pF, HS.sJ, HS.I, HS.J, HS.P, HS.K, HS.N, HS.R, HS.O, u2, hb, and_false, if_false]
theorem pu_I4 {E : Ev} {S : HS} {a : Nat} (h : S.K a = 0) (v : Int32) (b : Nat) : pF E (S.sI 4 a v) b = va_up (pF E S) a (.inr (3, [.int (S.I 0 a), .int (S.I 1 a), .int (S.I 2 a), .int (S.I 3 a), va_rf (S.P 0 a), va_rf (S.P 1 a), .long (S.J 0 a), .long (S.J 1 a), .int v, .int (S.I 5 a), .int (S.I 6 a), .int (S.I 7 a)])) b := by
  by_cases hb : b = a
  · subst hb; rw [va_up_self, pF_0 (S := S.sI 4 b v) h]; simp [HS.sI, HS.I, HS.J, HS.P, u2]
  · rw [va_up_ne _ _ hb]; simp only [pF, HS.sI, HS.I, HS.J, HS.P, HS.K, HS.N, HS.R, HS.O, u2, hb, and_false, if_false]
theorem pu_I5 {E : Ev} {S : HS} {a : Nat} (h : S.K a = 0) (v : Int32) (b : Nat) : pF E (S.sI 5 a v) b = va_up (pF E S) a (.inr (3, [.int (S.I 0 a), .int (S.I 1 a), .int (S.I 2 a), .int (S.I 3 a), va_rf (S.P 0 a), va_rf (S.P 1 a), .long (S.J 0 a), .long (S.J 1 a), .int (S.I 4 a), .int v, .int (S.I 6 a), .int (S.I 7 a)])) b := by
  by_cases hb : b = a
  · subst hb; rw [va_up_self, pF_0 (S := S.sI 5 b v) h]; simp [HS.sI, HS.I, HS.J, HS.P, u2]
  · rw [va_up_ne _ _ hb]; simp only [pF, HS.sI, HS.I, HS.J, HS.P, HS.K, HS.N, HS.R, HS.O, u2, hb, and_false, if_false]
theorem pu_I6 {E : Ev} {S : HS} {a : Nat} (h : S.K a = 0) (v : Int32) (b : Nat) : pF E (S.sI 6 a v) b = va_up (pF E S) a (.inr (3, [.int (S.I 0 a), .int (S.I 1 a), .int (S.I 2 a), .int (S.I 3 a), va_rf (S.P 0 a), va_rf (S.P 1 a), .long (S.J 0 a), .long (S.J 1 a), .int (S.I 4 a), .int (S.I 5 a), .int v, .int (S.I 7 a)])) b := by
  by_cases hb : b = a
  · subst hb; rw [va_up_self, pF_0 (S := S.sI 6 b v) h]; simp [HS.sI, HS.I, HS.J, HS.P, u2]
  · rw [va_up_ne _ _ hb]; simp only [pF, HS.sI, HS.I, HS.J, HS.P, HS.K, HS.N, HS.R, HS.O, u2, hb, and_false, if_false]
theorem pu_I7 {E : Ev} {S : HS} {a : Nat} (h : S.K a = 0) (v : Int32) (b : Nat) : pF E (S.sI 7 a v) b = va_up (pF E S) a (.inr (3, [.int (S.I 0 a), .int (S.I 1 a), .int (S.I 2 a), .int (S.I 3 a), va_rf (S.P 0 a), va_rf (S.P 1 a), .long (S.J 0 a), .long (S.J 1 a), .int (S.I 4 a), .int (S.I 5 a), .int (S.I 6 a), .int v])) b := by
  by_cases hb : b = a
  · subst hb; rw [va_up_self, pF_0 (S := S.sI 7 b v) h]; simp [HS.sI, HS.I, HS.J, HS.P, u2]
  · rw [va_up_ne _ _ hb]; simp only [pF, HS.sI, HS.I, HS.J, HS.P, HS.K, HS.N, HS.R, HS.O, u2, hb, and_false, if_false]
theorem pu_P2 {E : Ev} {S : HS} {a : Nat} (h : S.K a = 1) (v : Option Nat) (b : Nat) : pF E (S.sP 2 a v) b = va_up (pF E S) a (.inr (4, [va_rf v, .int (S.I 8 a)])) b := by
  by_cases hb : b = a
  · subst hb; rw [va_up_self, pF_1 (S := S.sP 2 b v) h]; simp [HS.sP, HS.I, HS.J, HS.P, u2]
  · rw [va_up_ne _ _ hb]; simp only [pF, HS.sP, HS.I, HS.J, HS.P, HS.K, HS.N, HS.R, HS.O, u2, hb, and_false, if_false]
theorem pu_I8 {E : Ev} {S : HS} {a : Nat} (h : S.K a = 1) (v : Int32) (b : Nat) : pF E (S.sI 8 a v) b = va_up (pF E S) a (.inr (4, [va_rf (S.P 2 a), .int v])) b := by
  by_cases hb : b = a
  · subst hb; rw [va_up_self, pF_1 (S := S.sI 8 b v) h]; simp [HS.sI, HS.I, HS.J, HS.P, u2]
  · rw [va_up_ne _ _ hb]; simp only [pF, HS.sI, HS.I, HS.J, HS.P, HS.K, HS.N, HS.R, HS.O, u2, hb, and_false, if_false]
theorem pu_P3 {E : Ev} {S : HS} {a : Nat} (h : S.K a = 2) (v : Option Nat) (b : Nat) : pF E (S.sP 3 a v) b = va_up (pF E S) a (.inr (5, [va_rf v, .int (S.I 9 a)])) b := by
  by_cases hb : b = a
  · subst hb; rw [va_up_self, pF_2 (S := S.sP 3 b v) h]; simp [HS.sP, HS.I, HS.J, HS.P, u2]
  · rw [va_up_ne _ _ hb]; simp only [pF, HS.sP, HS.I, HS.J, HS.P, HS.K, HS.N, HS.R, HS.O, u2, hb, and_false, if_false]
theorem pu_I9 {E : Ev} {S : HS} {a : Nat} (h : S.K a = 2) (v : Int32) (b : Nat) : pF E (S.sI 9 a v) b = va_up (pF E S) a (.inr (5, [va_rf (S.P 3 a), .int v])) b := by
  by_cases hb : b = a
  · subst hb; rw [va_up_self, pF_2 (S := S.sI 9 b v) h]; simp [HS.sI, HS.I, HS.J, HS.P, u2]
  · rw [va_up_ne _ _ hb]; simp only [pF, HS.sI, HS.I, HS.J, HS.P, HS.K, HS.N, HS.R, HS.O, u2, hb, and_false, if_false]
theorem pu_P4 {E : Ev} {S : HS} {a : Nat} (h : S.K a = 3) (v : Option Nat) (b : Nat) : pF E (S.sP 4 a v) b = va_up (pF E S) a (.inr (6, [va_rf v, va_rf (S.P 5 a), .int (S.I 10 a)])) b := by
  by_cases hb : b = a
  · subst hb; rw [va_up_self, pF_3 (S := S.sP 4 b v) h]; simp [HS.sP, HS.I, HS.J, HS.P, u2]
  · rw [va_up_ne _ _ hb]; simp only [pF, HS.sP, HS.I, HS.J, HS.P, HS.K, HS.N, HS.R, HS.O, u2, hb, and_false, if_false]
theorem pu_P5 {E : Ev} {S : HS} {a : Nat} (h : S.K a = 3) (v : Option Nat) (b : Nat) : pF E (S.sP 5 a v) b = va_up (pF E S) a (.inr (6, [va_rf (S.P 4 a), va_rf v, .int (S.I 10 a)])) b := by
  by_cases hb : b = a
  · subst hb; rw [va_up_self, pF_3 (S := S.sP 5 b v) h]; simp [HS.sP, HS.I, HS.J, HS.P, u2]
  · rw [va_up_ne _ _ hb]; simp only [pF, HS.sP, HS.I, HS.J, HS.P, HS.K, HS.N, HS.R, HS.O, u2, hb, and_false, if_false]
theorem pu_I10 {E : Ev} {S : HS} {a : Nat} (h : S.K a = 3) (v : Int32) (b : Nat) : pF E (S.sI 10 a v) b = va_up (pF E S) a (.inr (6, [va_rf (S.P 4 a), va_rf (S.P 5 a), .int v])) b := by
  by_cases hb : b = a
  · subst hb; rw [va_up_self, pF_3 (S := S.sI 10 b v) h]; simp [HS.sI, HS.I, HS.J, HS.P, u2]
  · rw [va_up_ne _ _ hb]; simp only [pF, HS.sI, HS.I, HS.J, HS.P, HS.K, HS.N, HS.R, HS.O, u2, hb, and_false, if_false]
theorem pu_P6 {E : Ev} {S : HS} {a : Nat} (h : S.K a = 4) (v : Option Nat) (b : Nat) : pF E (S.sP 6 a v) b = va_up (pF E S) a (.inr (7, [va_rf v, va_rf (S.P 7 a), va_rf (S.P 8 a), va_rf (S.P 9 a), .int (S.I 11 a), .int (S.I 12 a), .int (S.I 13 a), .int (S.I 14 a), .int (S.I 15 a)])) b := by
  by_cases hb : b = a
  · subst hb; rw [va_up_self, pF_4 (S := S.sP 6 b v) h]; simp [HS.sP, HS.I, HS.J, HS.P, u2]
  · rw [va_up_ne _ _ hb]; simp only [pF, HS.sP, HS.I, HS.J, HS.P, HS.K, HS.N, HS.R, HS.O, u2, hb, and_false, if_false]
theorem pu_P7 {E : Ev} {S : HS} {a : Nat} (h : S.K a = 4) (v : Option Nat) (b : Nat) : pF E (S.sP 7 a v) b = va_up (pF E S) a (.inr (7, [va_rf (S.P 6 a), va_rf v, va_rf (S.P 8 a), va_rf (S.P 9 a), .int (S.I 11 a), .int (S.I 12 a), .int (S.I 13 a), .int (S.I 14 a), .int (S.I 15 a)])) b := by
  by_cases hb : b = a
  · subst hb; rw [va_up_self, pF_4 (S := S.sP 7 b v) h]; simp [HS.sP, HS.I, HS.J, HS.P, u2]
  · rw [va_up_ne _ _ hb]; simp only [pF, HS.sP, HS.I, HS.J, HS.P, HS.K, HS.N, HS.R, HS.O, u2, hb, and_false, if_false]
theorem pu_P8 {E : Ev} {S : HS} {a : Nat} (h : S.K a = 4) (v : Option Nat) (b : Nat) : pF E (S.sP 8 a v) b = va_up (pF E S) a (.inr (7, [va_rf (S.P 6 a), va_rf (S.P 7 a), va_rf v, va_rf (S.P 9 a), .int (S.I 11 a), .int (S.I 12 a), .int (S.I 13 a), .int (S.I 14 a), .int (S.I 15 a)])) b := by
  by_cases hb : b = a
  · subst hb; rw [va_up_self, pF_4 (S := S.sP 8 b v) h]; simp [HS.sP, HS.I, HS.J, HS.P, u2]
  · rw [va_up_ne _ _ hb]; simp only [pF, HS.sP, HS.I, HS.J, HS.P, HS.K, HS.N, HS.R, HS.O, u2, hb, and_false, if_false]
theorem pu_P9 {E : Ev} {S : HS} {a : Nat} (h : S.K a = 4) (v : Option Nat) (b : Nat) : pF E (S.sP 9 a v) b = va_up (pF E S) a (.inr (7, [va_rf (S.P 6 a), va_rf (S.P 7 a), va_rf (S.P 8 a), va_rf v, .int (S.I 11 a), .int (S.I 12 a), .int (S.I 13 a), .int (S.I 14 a), .int (S.I 15 a)])) b := by
  by_cases hb : b = a
  · subst hb; rw [va_up_self, pF_4 (S := S.sP 9 b v) h]; simp [HS.sP, HS.I, HS.J, HS.P, u2]
  · rw [va_up_ne _ _ hb]; simp only [pF, HS.sP, HS.I, HS.J, HS.P, HS.K, HS.N, HS.R, HS.O, u2, hb, and_false, if_false]
theorem pu_I11 {E : Ev} {S : HS} {a : Nat} (h : S.K a = 4) (v : Int32) (b : Nat) : pF E (S.sI 11 a v) b = va_up (pF E S) a (.inr (7, [va_rf (S.P 6 a), va_rf (S.P 7 a), va_rf (S.P 8 a), va_rf (S.P 9 a), .int v, .int (S.I 12 a), .int (S.I 13 a), .int (S.I 14 a), .int (S.I 15 a)])) b := by
  by_cases hb : b = a
  · subst hb; rw [va_up_self, pF_4 (S := S.sI 11 b v) h]; simp [HS.sI, HS.I, HS.J, HS.P, u2]
  · rw [va_up_ne _ _ hb]; simp only [pF, HS.sI, HS.I, HS.J, HS.P, HS.K, HS.N, HS.R, HS.O, u2, hb, and_false, if_false]
theorem pu_I12 {E : Ev} {S : HS} {a : Nat} (h : S.K a = 4) (v : Int32) (b : Nat) : pF E (S.sI 12 a v) b = va_up (pF E S) a (.inr (7, [va_rf (S.P 6 a), va_rf (S.P 7 a), va_rf (S.P 8 a), va_rf (S.P 9 a), .int (S.I 11 a), .int v, .int (S.I 13 a), .int (S.I 14 a), .int (S.I 15 a)])) b := by
  by_cases hb : b = a
  · subst hb; rw [va_up_self, pF_4 (S := S.sI 12 b v) h]; simp [HS.sI, HS.I, HS.J, HS.P, u2]
  · rw [va_up_ne _ _ hb]; simp only [pF, HS.sI, HS.I, HS.J, HS.P, HS.K, HS.N, HS.R, HS.O, u2, hb, and_false, if_false]
theorem pu_I13 {E : Ev} {S : HS} {a : Nat} (h : S.K a = 4) (v : Int32) (b : Nat) : pF E (S.sI 13 a v) b = va_up (pF E S) a (.inr (7, [va_rf (S.P 6 a), va_rf (S.P 7 a), va_rf (S.P 8 a), va_rf (S.P 9 a), .int (S.I 11 a), .int (S.I 12 a), .int v, .int (S.I 14 a), .int (S.I 15 a)])) b := by
  by_cases hb : b = a
  · subst hb; rw [va_up_self, pF_4 (S := S.sI 13 b v) h]; simp [HS.sI, HS.I, HS.J, HS.P, u2]
  · rw [va_up_ne _ _ hb]; simp only [pF, HS.sI, HS.I, HS.J, HS.P, HS.K, HS.N, HS.R, HS.O, u2, hb, and_false, if_false]
theorem pu_I14 {E : Ev} {S : HS} {a : Nat} (h : S.K a = 4) (v : Int32) (b : Nat) : pF E (S.sI 14 a v) b = va_up (pF E S) a (.inr (7, [va_rf (S.P 6 a), va_rf (S.P 7 a), va_rf (S.P 8 a), va_rf (S.P 9 a), .int (S.I 11 a), .int (S.I 12 a), .int (S.I 13 a), .int v, .int (S.I 15 a)])) b := by
  by_cases hb : b = a
  · subst hb; rw [va_up_self, pF_4 (S := S.sI 14 b v) h]; simp [HS.sI, HS.I, HS.J, HS.P, u2]
  · rw [va_up_ne _ _ hb]; simp only [pF, HS.sI, HS.I, HS.J, HS.P, HS.K, HS.N, HS.R, HS.O, u2, hb, and_false, if_false]
theorem pu_I15 {E : Ev} {S : HS} {a : Nat} (h : S.K a = 4) (v : Int32) (b : Nat) : pF E (S.sI 15 a v) b = va_up (pF E S) a (.inr (7, [va_rf (S.P 6 a), va_rf (S.P 7 a), va_rf (S.P 8 a), va_rf (S.P 9 a), .int (S.I 11 a), .int (S.I 12 a), .int (S.I 13 a), .int (S.I 14 a), .int v])) b := by
  by_cases hb : b = a
  · subst hb; rw [va_up_self, pF_4 (S := S.sI 15 b v) h]; simp [HS.sI, HS.I, HS.J, HS.P, u2]
  · rw [va_up_ne _ _ hb]; simp only [pF, HS.sI, HS.I, HS.J, HS.P, HS.K, HS.N, HS.R, HS.O, u2, hb, and_false, if_false]
theorem pu_I16 {E : Ev} {S : HS} {a : Nat} (h : S.K a = 5) (v : Int32) (b : Nat) : pF E (S.sI 16 a v) b = va_up (pF E S) a (.inr (2, [.int v, va_rf (S.P 10 a), .int (S.I 17 a)])) b := by
  by_cases hb : b = a
  · subst hb; rw [va_up_self, pF_5 (S := S.sI 16 b v) h]; simp [HS.sI, HS.I, HS.J, HS.P, u2]
  · rw [va_up_ne _ _ hb]; simp only [pF, HS.sI, HS.I, HS.J, HS.P, HS.K, HS.N, HS.R, HS.O, u2, hb, and_false, if_false]
theorem pu_P10 {E : Ev} {S : HS} {a : Nat} (h : S.K a = 5) (v : Option Nat) (b : Nat) : pF E (S.sP 10 a v) b = va_up (pF E S) a (.inr (2, [.int (S.I 16 a), va_rf v, .int (S.I 17 a)])) b := by
  by_cases hb : b = a
  · subst hb; rw [va_up_self, pF_5 (S := S.sP 10 b v) h]; simp [HS.sP, HS.I, HS.J, HS.P, u2]
  · rw [va_up_ne _ _ hb]; simp only [pF, HS.sP, HS.I, HS.J, HS.P, HS.K, HS.N, HS.R, HS.O, u2, hb, and_false, if_false]
theorem pu_I17 {E : Ev} {S : HS} {a : Nat} (h : S.K a = 5) (v : Int32) (b : Nat) : pF E (S.sI 17 a v) b = va_up (pF E S) a (.inr (2, [.int (S.I 16 a), va_rf (S.P 10 a), .int v])) b := by
  by_cases hb : b = a
  · subst hb; rw [va_up_self, pF_5 (S := S.sI 17 b v) h]; simp [HS.sI, HS.I, HS.J, HS.P, u2]
  · rw [va_up_ne _ _ hb]; simp only [pF, HS.sI, HS.I, HS.J, HS.P, HS.K, HS.N, HS.R, HS.O, u2, hb, and_false, if_false]
theorem pu_R {E : Ev} {S : HS} {a : Nat} (h : S.K a = 6) (j : Nat) (v : Int32) (b : Nat) : pF E (S.sR a j v) b = va_up (pF E S) a (.inl (E.cA 0, S.N a, .inl (upd (S.R a) j v))) b := by
  by_cases hb : b = a
  · subst hb; rw [va_up_self, pF_6 (S := S.sR b j v) h]
    refine congrArg (fun z => Sum.inl (E.cA 0, S.N b, Sum.inl z)) (funext fun i => ?_)
    simp [HS.sR, HS.R, u2, upd]
  · rw [va_up_ne _ _ hb]; simp only [pF, HS.sR, HS.I, HS.J, HS.P, HS.K, HS.N, HS.R, HS.O]
    split <;> first | rfl | (refine congrArg (fun z => Sum.inl (E.cA 0, S.2.2.2.2.2.1 b, Sum.inl z)) (funext fun i => ?_); simp [u2, hb])
theorem pu_O {E : Ev} {S : HS} {a : Nat} (h : S.K a = 7) (j : Nat) (v : Option Nat) (b : Nat) : pF E (S.sO a j v) b = va_up (pF E S) a (.inl (E.cA 2, S.N a, .inr (.inr (.inr (.inr (va_up (S.O a) j v)))))) b := by
  by_cases hb : b = a
  · subst hb; rw [va_up_self, pF_7 (S := S.sO b j v) h]
    refine congrArg (fun z => Sum.inl (E.cA 2, S.N b, Sum.inr (Sum.inr (Sum.inr (Sum.inr z))))) (funext fun i => ?_)
    simp [HS.sO, HS.O, u2, va_up]
  · rw [va_up_ne _ _ hb]; simp only [pF, HS.sO, HS.I, HS.J, HS.P, HS.K, HS.N, HS.R, HS.O]
    split <;> first | rfl | (refine congrArg (fun z => Sum.inl (E.cA 2, S.2.2.2.2.2.1 b, Sum.inr (Sum.inr (Sum.inr (Sum.inr z))))) (funext fun i => ?_); simp [u2, hb])
theorem pu_rO {E : Ev} {S : HS} {a : Nat} (h : S.K a = 7) (f : Nat → Option Nat) (b : Nat) : pF E (S.rO a f) b = va_up (pF E S) a (.inl (E.cA 2, S.N a, .inr (.inr (.inr (.inr f))))) b := by
  by_cases hb : b = a
  · subst hb; rw [va_up_self, pF_7 (S := S.rO b f) h]
    simp [HS.rO, HS.O, HS.N, va_up]
  · rw [va_up_ne _ _ hb]; simp only [pF, HS.rO, HS.I, HS.J, HS.P, HS.K, HS.N, HS.R, HS.O, va_up, if_neg hb]
theorem pu_nR6 {E : Ev} {S : HS} (q n b : Nat) : pF E (S.nR q 6 n) b = va_up (pF E S) q (.inl (E.cA 0, n, .inl (fun _ => 0))) b := by
  by_cases hb : b = q
  · subst hb; rw [va_up_self, pF_6 (S := S.nR b 6 n) (by simp [HS.nR, HS.K, va_up])]; simp [HS.nR, HS.N, HS.R, va_up]
  · rw [va_up_ne _ _ hb]; simp only [pF, HS.nR, HS.I, HS.J, HS.P, HS.K, HS.N, HS.R, HS.O, va_up, if_neg hb]
theorem pu_nR7 {E : Ev} {S : HS} (q n b : Nat) : pF E (S.nR q 7 n) b = va_up (pF E S) q (.inl (E.cA 2, n, .inr (.inr (.inr (.inr (fun _ => none)))))) b := by
  by_cases hb : b = q
  · subst hb; rw [va_up_self, pF_7 (S := S.nR b 7 n) (by simp [HS.nR, HS.K, va_up])]; simp [HS.nR, HS.N, HS.O, va_up]
  · rw [va_up_ne _ _ hb]; simp only [pF, HS.nR, HS.I, HS.J, HS.P, HS.K, HS.N, HS.R, HS.O, va_up, if_neg hb]
theorem pu_n0 {E : Ev} {S : HS} (q b : Nat) : pF E (S.nO q 0) b = va_up (pF E S) q (.inr (3, [.int 0, .int 0, .int 0, .int 0, .null, .null, .long 0, .long 0, .int 0, .int 0, .int 0, .int 0])) b := by
  by_cases hb : b = q
  · subst hb; rw [va_up_self, pF_0 (S := S.nO b 0) (by simp [HS.nO, HS.K, va_up])]; simp [HS.nO, HS.I, HS.J, HS.P, va_rf]
  · rw [va_up_ne _ _ hb]; simp only [pF, HS.nO, HS.I, HS.J, HS.P, HS.K, HS.N, HS.R, HS.O, va_up, if_neg hb]
theorem pu_n1 {E : Ev} {S : HS} (q b : Nat) : pF E (S.nO q 1) b = va_up (pF E S) q (.inr (4, [.null, .int 0])) b := by
  by_cases hb : b = q
  · subst hb; rw [va_up_self, pF_1 (S := S.nO b 1) (by simp [HS.nO, HS.K, va_up])]; simp [HS.nO, HS.I, HS.J, HS.P, va_rf]
  · rw [va_up_ne _ _ hb]; simp only [pF, HS.nO, HS.I, HS.J, HS.P, HS.K, HS.N, HS.R, HS.O, va_up, if_neg hb]
theorem pu_n2 {E : Ev} {S : HS} (q b : Nat) : pF E (S.nO q 2) b = va_up (pF E S) q (.inr (5, [.null, .int 0])) b := by
  by_cases hb : b = q
  · subst hb; rw [va_up_self, pF_2 (S := S.nO b 2) (by simp [HS.nO, HS.K, va_up])]; simp [HS.nO, HS.I, HS.J, HS.P, va_rf]
  · rw [va_up_ne _ _ hb]; simp only [pF, HS.nO, HS.I, HS.J, HS.P, HS.K, HS.N, HS.R, HS.O, va_up, if_neg hb]
theorem pu_n3 {E : Ev} {S : HS} (q b : Nat) : pF E (S.nO q 3) b = va_up (pF E S) q (.inr (6, [.null, .null, .int 0])) b := by
  by_cases hb : b = q
  · subst hb; rw [va_up_self, pF_3 (S := S.nO b 3) (by simp [HS.nO, HS.K, va_up])]; simp [HS.nO, HS.I, HS.J, HS.P, va_rf]
  · rw [va_up_ne _ _ hb]; simp only [pF, HS.nO, HS.I, HS.J, HS.P, HS.K, HS.N, HS.R, HS.O, va_up, if_neg hb]
theorem pu_n4 {E : Ev} {S : HS} (q b : Nat) : pF E (S.nO q 4) b = va_up (pF E S) q (.inr (7, [.null, .null, .null, .null, .int 0, .int 0, .int 0, .int 0, .int 0])) b := by
  by_cases hb : b = q
  · subst hb; rw [va_up_self, pF_4 (S := S.nO b 4) (by simp [HS.nO, HS.K, va_up])]; simp [HS.nO, HS.I, HS.J, HS.P, va_rf]
  · rw [va_up_ne _ _ hb]; simp only [pF, HS.nO, HS.I, HS.J, HS.P, HS.K, HS.N, HS.R, HS.O, va_up, if_neg hb]
theorem pu_n5 {E : Ev} {S : HS} (q b : Nat) : pF E (S.nO q 5) b = va_up (pF E S) q (.inr (2, [.int 0, .null, .int 0])) b := by
  by_cases hb : b = q
  · subst hb; rw [va_up_self, pF_5 (S := S.nO b 5) (by simp [HS.nO, HS.K, va_up])]; simp [HS.nO, HS.I, HS.J, HS.P, va_rf]
  · rw [va_up_ne _ _ hb]; simp only [pF, HS.nO, HS.I, HS.J, HS.P, HS.K, HS.N, HS.R, HS.O, va_up, if_neg hb]
theorem pw_set {E : Ev} {A : Nat → Prop} {X : va_W} {S S2 : HS} {a k : Nat} {e : va_E} (hD : va_D A (X ++ pw E S)) (hL : a ∈ S.L) (hk : (X ++ pw E S)[k]? = some (a, pF E S a)) (hl : S2.L = S.L) (he : ∀ b, pF E S2 b = va_up (pF E S) a e b) : (X ++ pw E S).set k (a, e) = X ++ pw E S2 := by
  unfold pw at hD hk ⊢
  rw [va_pl_set hD hL hk, hl, va_pl_congr he]
theorem pw_push {E : Ev} {A : Nat → Prop} {X : va_W} {S S2 : HS} {q : Nat} {e : va_E} (hD : va_D A ((X ++ pw E S) ++ [(q, e)])) (hl : S2.L = S.L ++ [q]) (he : ∀ b, pF E S2 b = va_up (pF E S) q e b) : q ∉ S.L ∧ (X ++ pw E S) ++ [(q, e)] = X ++ pw E S2 := by
  have hq : q ∉ S.L := va_pl_fresh2 (X := X) (L := S.L) (f := pF E S) hD
  refine ⟨hq, ?_⟩
  unfold pw
  rw [List.append_assoc, va_pl_push hq, hl, va_pl_congr he]
theorem pw_at {E : Ev} {X : va_W} {S : HS} {a : Nat} (hL : a ∈ S.L) : ∃ k : Nat, (X ++ pw E S)[k]? = some (a, pF E S a) := va_pl_get (X := X) (f := pF E S) hL
theorem pw_at2 {E : Ev} {X : va_W} {S : HS} {a : Nat} {e : va_E} (hL : a ∈ S.L) (hf : pF E S a = e) : ∃ k : Nat, (X ++ pw E S)[k]? = some (a, pF E S a) ∧ (X ++ pw E S)[k]? = some (a, e) := by
  obtain ⟨k, hk⟩ := pw_at (E := E) (X := X) hL
  exact ⟨k, hk, by rw [hk, hf]⟩
section HRows
variable {p : Program} {l : Launch} {e : Env} {R : Room} {s : State} {m : MethodId} {args : Array Value} {below : List Frame} {meth : Method} {c : Code} {E : Ev} {nL : Nat} {A : Nat → Prop} {Q : State → Prop} {X : va_W} {S : HS} {cells slots pc : Nat} {lv : List (Nat × Value)} {st : List Value} {cc : ByteArray} {y : MethodName} {ret : Option FieldType} {c0 : Cond}
/-- what the world's addresses are: apart, and all in A; the empty row of before is none of them -/
theorem g_know (C : Cx p s m args meth c cc nL y ret c0 E A) (kk : (∀ a ∈ S.L, A a) → S.L.Nodup → ¬ A (E.sa 0) → GW p l e R s m args below meth c E nL A Q X S cells slots pc lv st) : GW p l e R s m args below meth c E nL A Q X S cells slots pc lv st := by
  intro H locs ls hP hD hS hl
  refine kk (fun a ha => ?_) ?_ C.z.2.1.out H locs ls hP hD hS hl
  · obtain ⟨k, hk⟩ := pw_at (E := E) (X := X) ha
    exact hD.2 k _ hk
  · refine List.pairwise_iff_getElem.mpr (fun i j hi hj hij h => ?_)
    have key : ∀ (i : Nat) (hi : i < S.L.length), (X ++ pw E S)[X.length + i]? = some (S.L[i], pF E S S.L[i]) := fun i hi => by
      rw [List.getElem?_append_right (by omega), Nat.add_sub_cancel_left]
      unfold pw va_pl
      rw [List.getElem?_map, List.getElem?_eq_getElem hi]; rfl
    have := hD.1 _ _ _ _ (key i hi) (key j hj) h
    omega
theorem g_get (C : Cx p s m args meth c cc nL y ret c0 E A) {a ci N index : Nat} {Cn ref : String} {T : u_T} {fs : List Value} {v : Value} (k : Nat) (hL : a ∈ S.L) (hf : pF E S a = .inr (ci, fs)) (hc : vwCl[ci]? = some (Cn, T, N)) (hk : k < N) (hin : ∀ w ∈ u_ws Cn T N, w ∈ wT) (hlink : Cond.fieldLink y.cls index ref (T k).2.1 (T k).2.2.1 ∈ wT) (hsame : (T k).1 = ref) (hv : fs[k]? = some v) (hd : decode cc pc = .ok (.getfield index, 3)) (kk : GW p l e R s m args below meth c E nL A Q X S cells slots (pc + 3) lv (v :: st)) : GW p l e R s m args below meth c E nL A Q X S cells slots pc lv (.ref a :: st) := by
  intro H locs ls hP hD hS hl
  obtain ⟨k0, hk0⟩ := pw_at (E := E) (X := X) hL
  rw [hf] at hk0
  exact va_get C.x C.b C.ts (fun w h => List.mem_cons_of_mem _ (hin w h)) C.own C.k hP k0 hk0 hc k hk (C.w hlink) (fun _ h => hsame ▸ h) hv hd (kk H locs ls hP hD hS hl)
theorem g_put (C : Cx p s m args meth c cc nL y ret c0 E A) {a ci N index : Nat} {Cn ref : String} {T : u_T} {fs : List Value} {v : Value} {ty0 : Nat → FieldType} {ty : FieldType} {S2 : HS} (k : Nat) (hL : a ∈ S.L) (hf : pF E S a = .inr (ci, fs)) (hc : vwCl[ci]? = some (Cn, T, N)) (hk : k < N) (hin : ∀ w ∈ u_ws Cn T N, w ∈ wT) (hty : ∀ k, k < N → parseFieldDescriptor (T k).2.2.1 = some (ty0 k)) (hnm : ∀ a, a < N → ∀ b, b < N → a ≠ b → (T a).2.1 ≠ (T b).2.1) (hlink : Cond.fieldLink y.cls index ref (T k).2.1 (T k).2.2.1 ∈ wT) (hsame : (T k).1 = ref) (hfin : (T k).2.2.2 = false) (hdv : parseFieldDescriptor (T k).2.2.1 = some ty) (hn : narrow ty v = v) (hfit : fits ty v = true) (hl2 : k < fs.length) (hSL : S2.L = S.L) (hS2 : ∀ b, pF E S2 b = va_up (pF E S) a (.inr (ci, fs.set k v)) b) (hd : decode cc pc = .ok (.putfield index, 3)) (kk : GW p l e R s m args below meth c E nL A Q X S2 cells slots (pc + 3) lv st) : GW p l e R s m args below meth c E nL A Q X S cells slots pc lv (v :: .ref a :: st) := by
  intro H locs ls hP hD hS hl
  obtain ⟨k0, hk0⟩ := pw_at (E := E) (X := X) hL
  have hk1 := hk0
  rw [hf] at hk1
  refine va_put C.x C.b C.ts (fun w h => List.mem_cons_of_mem _ (hin w h)) ty0 hty hnm C.own C.k hP hD hS k0 hk1 hc k hk (C.w hlink) (fun _ h => hsame ▸ h) hfin hdv hn hfit hl2 hd (fun H1 locs1 hP1 hD1 hS1 => ?_)
  rw [pw_set hD hL hk0 hSL hS2] at hP1 hD1
  exact kk H1 locs1 ls hP1 hD1 hS1 hl
theorem g_putF (C : Cx p s m args meth c cc nL y ret c0 E A) {a ci N index : Nat} {Cn ref : String} {T : u_T} {fs : List Value} {v : Value} {ty0 : Nat → FieldType} {ty : FieldType} {S2 : HS} (k : Nat) (hL : a ∈ S.L) (hf : pF E S a = .inr (ci, fs)) (hc : vwCl[ci]? = some (Cn, T, N)) (hk : k < N) (hin : ∀ w ∈ u_ws Cn T N, w ∈ wT) (hty : ∀ k, k < N → parseFieldDescriptor (T k).2.2.1 = some (ty0 k)) (hnm : ∀ a, a < N → ∀ b, b < N → a ≠ b → (T a).2.1 ≠ (T b).2.1) (hlink : Cond.fieldLink y.cls index ref (T k).2.1 (T k).2.2.1 ∈ wT) (hsame : (T k).1 = ref) (hfin : (T k).2.2.2 = true) (hi : y.name = "<init>") (hdecl : (T k).1 = y.cls) (hdv : parseFieldDescriptor (T k).2.2.1 = some ty) (hn : narrow ty v = v) (hfit : fits ty v = true) (hl2 : k < fs.length) (hSL : S2.L = S.L) (hS2 : ∀ b, pF E S2 b = va_up (pF E S) a (.inr (ci, fs.set k v)) b) (hd : decode cc pc = .ok (.putfield index, 3)) (kk : GW p l e R s m args below meth c E nL A Q X S2 cells slots (pc + 3) lv st) : GW p l e R s m args below meth c E nL A Q X S cells slots pc lv (v :: .ref a :: st) := by
  intro H locs ls hP hD hS hl
  obtain ⟨k0, hk0⟩ := pw_at (E := E) (X := X) hL
  have hk1 := hk0
  rw [hf] at hk1
  refine va_putF C.x C.b C.ts (fun w h => List.mem_cons_of_mem _ (hin w h)) ty0 hty hnm C.own C.k hP hD hS k0 hk1 hc k hk (C.w hlink) (fun _ h => hsame ▸ h) hfin (C.nm.trans hi) hdecl hdv hn hfit hl2 hd (fun H1 locs1 hP1 hD1 hS1 => ?_)
  rw [pw_set hD hL hk0 hSL hS2] at hP1 hD1
  exact kk H1 locs1 ls hP1 hD1 hS1 hl
theorem g_new (C : Cx p s m args meth c cc nL y ret c0 E A) {ci N index : Nat} {Cn : String} {T : u_T} {fs : List Value} {ty : Nat → FieldType} (S2 : Nat → HS) (hc : vwCl[ci]? = some (Cn, T, N)) (hin : ∀ w ∈ u_ws Cn T N, w ∈ wT) (hty : ∀ k, k < N → parseFieldDescriptor (T k).2.2.1 = some (ty k)) (hcl : Cond.classLink y.cls index Cn ∈ wT) (hinst : Cond.instantiable Cn N ∈ wT) (hini : Cond.initialized Cn ∈ wT) (hfs : ∀ j, j < N → defaultValue (ty j) = vp_V fs j) (hcells : cells + 1 ≤ R.cells) (hslots : slots + N ≤ R.slots) (hSL : ∀ q, (S2 q).L = S.L ++ [q]) (hS2 : ∀ q b, pF E (S2 q) b = va_up (pF E S) q (.inr (ci, fs)) b) (hd : decode cc pc = .ok (.new index, 3)) (kk : ∀ q : Nat, q ∉ S.L → GW p l e R s m args below meth c E nL A Q X (S2 q) (cells + 1) (slots + N) (pc + 3) lv (.ref q :: st)) : GW p l e R s m args below meth c E nL A Q X S cells slots pc lv st := by
  intro H locs ls hP hD hS hl
  refine va_new C.x C.b C.ts (fun w h => List.mem_cons_of_mem _ (hin w h)) ty hty C.own (C.w hcl) (C.w hinst) (C.w hini) C.k hP hD hS C.a hc hfs hcells hslots hd (fun q H1 hP1 hD1 hS1 => ?_)
  obtain ⟨hq, he⟩ := pw_push hD1 (hSL q) (hS2 q)
  rw [he] at hP1 hD1
  exact kk q hq H1 locs ls hP1 hD1 hS1 hl
theorem g_iald (C : Cx p s m args meth c cc nL y ret c0 E A) {a n : Nat} {f : Nat → Int32} {i : Int32} (hL : a ∈ S.L) (hf : pF E S a = .inl (E.cA 0, n, .inl f)) (hin : vp_in i n) (hd : decode cc pc = .ok (.iaload, 1)) (kk : GW p l e R s m args below meth c E nL A Q X S cells slots (pc + 1) lv (.int (f i.toNatClampNeg) :: st)) : GW p l e R s m args below meth c E nL A Q X S cells slots pc lv (.int i :: .ref a :: st) := by
  intro H locs ls hP hD hS hl
  obtain ⟨k0, hk0⟩ := pw_at (E := E) (X := X) hL
  rw [hf] at hk0
  exact va_iald C.x C.b C.k hP k0 0 hk0 rfl hin hd (kk H locs ls hP hD hS hl)
theorem g_iast (C : Cx p s m args meth c cc nL y ret c0 E A) {a : Nat} {i v : Int32} (hL : a ∈ S.L) (hK : S.K a = 6) (hin : vp_in i (S.N a)) (hd : decode cc pc = .ok (.iastore, 1)) (kk : GW p l e R s m args below meth c E nL A Q X (S.sR a i.toNatClampNeg v) cells slots (pc + 1) lv st) : GW p l e R s m args below meth c E nL A Q X S cells slots pc lv (.int v :: .int i :: .ref a :: st) := by
  intro H locs ls hP hD hS hl
  obtain ⟨k0, hk0⟩ := pw_at (E := E) (X := X) hL
  have hk1 := hk0
  rw [pF_6 hK] at hk1
  refine va_iast C.x C.b C.k hP hD hS k0 0 hk1 rfl hin hd (fun H1 locs1 hP1 hD1 hS1 => ?_)
  rw [pw_set hD hL hk0 (S2 := S.sR a i.toNatClampNeg v) rfl (pu_R hK i.toNatClampNeg v)] at hP1 hD1
  exact kk H1 locs1 ls hP1 hD1 hS1 hl
theorem g_alen (C : Cx p s m args meth c cc nL y ret c0 E A) {a t0 : Nat} {cA : ClassId} {x : vp_A} {ty : FieldType} (v : Int32) (hL : a ∈ S.L) (hf : pF E S a = .inl (cA, x)) (ht : E.ty[t0]? = some (cA, ty)) (hv : Int32.ofNat x.1 = v) (hd : decode cc pc = .ok (.arraylength, 1)) (kk : GW p l e R s m args below meth c E nL A Q X S cells slots (pc + 1) lv (.int v :: st)) : GW p l e R s m args below meth c E nL A Q X S cells slots pc lv (.ref a :: st) := by
  intro H locs ls hP hD hS hl
  obtain ⟨k0, hk0⟩ := pw_at (E := E) (X := X) hL
  rw [hf] at hk0
  exact va_alen C.x C.b C.k hP k0 t0 hk0 ht hv hd (kk H locs ls hP hD hS hl)
theorem g_aald (C : Cx p s m args meth c cc nL y ret c0 E A) {a : Nat} {i : Int32} (hL : a ∈ S.L) (hK : S.K a = 7) (hin : vp_in i (S.N a)) (hd : decode cc pc = .ok (.aaload, 1)) (kk : GW p l e R s m args below meth c E nL A Q X S cells slots (pc + 1) lv (va_rf (S.O a i.toNatClampNeg) :: st)) : GW p l e R s m args below meth c E nL A Q X S cells slots pc lv (.int i :: .ref a :: st) := by
  intro H locs ls hP hD hS hl
  obtain ⟨k0, hk0⟩ := pw_at (E := E) (X := X) hL
  rw [pF_7 hK] at hk0
  exact va_aldq (C := "java/lang/Object") C.x C.b C.k hP k0 2 hk0 rfl hin hd (kk H locs ls hP hD hS hl)
theorem g_aast (C : Cx p s m args meth c cc nL y ret c0 E A) {a v ci : Nat} {r : vw_C} {vs : List Value} {i : Int32} (hL : a ∈ S.L) (hK : S.K a = 7) (hin : vp_in i (S.N a)) (hvL : v ∈ S.L) (hvf : pF E S v = .inr (ci, vs)) (hc : vwCl[ci]? = some r) (hca : va_Nw (.castable r.1 "java/lang/Object") s) (hd : decode cc pc = .ok (.aastore, 1)) (kk : GW p l e R s m args below meth c E nL A Q X (S.sO a i.toNatClampNeg (some v)) cells slots (pc + 1) lv st) : GW p l e R s m args below meth c E nL A Q X S cells slots pc lv (.ref v :: .int i :: .ref a :: st) := by
  intro H locs ls hP hD hS hl
  obtain ⟨k0, hk0⟩ := pw_at (E := E) (X := X) hL
  obtain ⟨k9, hk9⟩ := pw_at (E := E) (X := X) hvL
  have hk1 := hk0
  rw [pF_7 hK] at hk1
  rw [hvf] at hk9
  refine va_astqO (E := "java/lang/Object") C.x C.b C.k hP hD hS k0 2 k9 ci hk1 rfl hca hk9 hc hin hd (fun H1 locs1 hP1 hD1 hS1 => ?_)
  rw [pw_set hD hL hk0 (S2 := S.sO a i.toNatClampNeg (some v)) rfl (pu_O hK i.toNatClampNeg (some v))] at hP1 hD1
  exact kk H1 locs1 ls hP1 hD1 hS1 hl
theorem g_aastN (C : Cx p s m args meth c cc nL y ret c0 E A) {a : Nat} {i : Int32} (hL : a ∈ S.L) (hK : S.K a = 7) (hin : vp_in i (S.N a)) (hd : decode cc pc = .ok (.aastore, 1)) (kk : GW p l e R s m args below meth c E nL A Q X (S.sO a i.toNatClampNeg none) cells slots (pc + 1) lv st) : GW p l e R s m args below meth c E nL A Q X S cells slots pc lv (.null :: .int i :: .ref a :: st) := by
  intro H locs ls hP hD hS hl
  obtain ⟨k0, hk0⟩ := pw_at (E := E) (X := X) hL
  have hk1 := hk0
  rw [pF_7 hK] at hk1
  refine va_astqN (C := "java/lang/Object") C.x C.b C.k hP hD hS k0 2 hk1 rfl hin hd (fun H1 locs1 hP1 hD1 hS1 => ?_)
  rw [pw_set hD hL hk0 (S2 := S.sO a i.toNatClampNeg none) rfl (pu_O hK i.toNatClampNeg none)] at hP1 hD1
  exact kk H1 locs1 ls hP1 hD1 hS1 hl
/-- a class name at a checkcast: the object is of that very class -/
theorem g_cast (C : Cx p s m args meth c cc nL y ret c0 E A) {a ci N index : Nat} {Cn : String} {T : u_T} {fs : List Value} (hL : a ∈ S.L) (hf : pF E S a = .inr (ci, fs)) (hc : vwCl[ci]? = some (Cn, T, N)) (hcl : Cond.classLink y.cls index Cn ∈ wT) (hd : decode cc pc = .ok (.checkcast index, 3)) (kk : GW p l e R s m args below meth c E nL A Q X S cells slots (pc + 3) lv (.ref a :: st)) : GW p l e R s m args below meth c E nL A Q X S cells slots pc lv (.ref a :: st) := by
  intro H locs ls hP hD hS hl
  obtain ⟨k0, hk0⟩ := pw_at (E := E) (X := X) hL
  rw [hf] at hk0
  exact va_castS C.x C.b C.own (C.w hcl) (C.k.1 ci _ hc).2 (va_recv C.k hP hc hk0) hd (kk H locs ls hP hD hS hl)
/-! ===== ends ===== -/
theorem g_mono {Q2 : State → Prop} (h : ∀ t, Q t → Q2 t) (kk : GW p l e R s m args below meth c E nL A Q X S cells slots pc lv st) : GW p l e R s m args below meth c E nL A Q2 X S cells slots pc lv st := fun H locs ls hP hD hS hl T hT Y => by
  obtain ⟨t, a, b⟩ := kk H locs ls hP hD hS hl T hT Y
  exact ⟨t, a, h t b⟩
variable {mc ms : Nat} {Po : Option Value → va_W → HS → Prop}
theorem g_iret (C : Cx p s m args meth c cc nL y ret c0 E A) {v : Int32} {ty : FieldType} (hQ : ∀ t, MQ below (QR E A Po) args s mc ms A t → Q t) (hr : ret = some ty) (hn : narrow ty (.int v) = .int v) (hd : decode cc pc = .ok (.ireturn, 1)) (hc : cells ≤ mc) (hs : slots ≤ ms) (hp : Po (some (.int v)) X S) : GW p l e R s m args below meth c E nL A Q X S cells slots pc lv [.int v] := by
  refine g_mono hQ ?_
  intro H locs ls hP hD hS hl
  exact W.widen hc hs (W.zret (ty := ty) C.x C.b (C.r.trans hr) hn (fun t ht hW => ⟨⟨_, X, S, rfl, hp, by rw [ht]; exact hP, hD⟩, hS.F ht⟩) hS.2.2 hd C.lk)
theorem g_lret (C : Cx p s m args meth c cc nL y ret c0 E A) {v : Int64} (hQ : ∀ t, MQ below (QR E A Po) args s mc ms A t → Q t) (hr : ret = some .long) (hd : decode cc pc = .ok (.lreturn, 1)) (hc : cells ≤ mc) (hs : slots ≤ ms) (hp : Po (some (.long v)) X S) : GW p l e R s m args below meth c E nL A Q X S cells slots pc lv [.long v] := by
  refine g_mono hQ ?_
  intro H locs ls hP hD hS hl
  exact W.widen hc hs (W.lret C.x C.b (C.r.trans hr) (fun t ht hW => ⟨⟨_, X, S, rfl, hp, by rw [ht]; exact hP, hD⟩, hS.F ht⟩) hS.2.2 hd C.lk)
theorem g_aret (C : Cx p s m args meth c cc nL y ret c0 E A) {v : Value} {rt : FieldType} (hQ : ∀ t, MQ below (QR E A Po) args s mc ms A t → Q t) (hr : ret = some rt) (hrt : (∃ n, rt = .object n) ∨ ∃ t, rt = .array t) (hv : v = .null ∨ ∃ a, v = .ref a) (hd : decode cc pc = .ok (.areturn, 1)) (hc : cells ≤ mc) (hs : slots ≤ ms) (hp : Po (some v) X S) : GW p l e R s m args below meth c E nL A Q X S cells slots pc lv [v] := by
  refine g_mono hQ ?_
  intro H locs ls hP hD hS hl
  exact W.widen hc hs (W.aret C.x C.b (C.r.trans hr) hrt hv (fun t ht hW => ⟨⟨_, X, S, rfl, hp, by rw [ht]; exact hP, hD⟩, hS.F ht⟩) hS.2.2 hd C.lk)
theorem g_vret (C : Cx p s m args meth c cc nL y ret c0 E A) (hQ : ∀ t, MQ below (QR E A Po) args s mc ms A t → Q t) (hr : ret = none) (hd : decode cc pc = .ok (.return_, 1)) (hc : cells ≤ mc) (hs : slots ≤ ms) (hp : Po none X S) : GW p l e R s m args below meth c E nL A Q X S cells slots pc lv [] := by
  refine g_mono hQ ?_
  intro H locs ls hP hD hS hl
  exact W.widen hc hs (W.vret C.x C.b (C.r.trans hr) (fun t ht hW => ⟨⟨_, X, S, rfl, hp, by rw [ht]; exact hP, hD⟩, hS.F ht⟩) hS.2.2 hd C.lk)
/-! ===== calls ===== -/
/-- behind a run of a callee over the whole world -/
theorem g_ran {H : Heap} {locs : List Loc} {ls : Array Slot} {rest : List Value} {av : Array Value} (hr : va_Run p l e R s m args below meth c H locs cells slots mc ms (F0 m pc ls st) rest (QR E (va_A (X ++ pw E S) H.size) Po av) (va_A (X ++ pw E S) H.size)) (hA : ∀ q, s.heap.size ≤ q → A q) (hD : va_D A (X ++ pw E S)) (hS : va_S A s.heap H locs) (hl : lv_has ls nL lv)
    (kk : ∀ (v : Option Value) (X2 : va_W) (S2 : HS), Po v X2 S2 → GW p l e R s m args below meth c E nL A Q X2 S2 (cells + mc) (slots + ms) (pc + 3) lv (v.toList ++ rest)) : W p l e R s m args below meth c H locs cells slots Q (F0 m pc ls st) := by
  intro T hT Y
  obtain ⟨v, st₀, t, T', L, h0, Y', hL, e1, e2, ⟨⟨v2, X2, S2, hv, hp, hP2, hD2⟩, hz, hk⟩, stp⟩ := hr T hT Y
  cases hv
  rw [h0] at hz hk
  have hAA : ∀ q, va_A (X ++ pw E S) H.size q → A q := fun q h => by
    rcases h with ⟨k, e9, h⟩ | h
    · exact hD.2 k _ h
    · exact hA q (Nat.le_trans hS.1 h)
  obtain ⟨t2, a1, b1⟩ := kk v X2 S2 hp T'.heap (locs ++ L) ls (by rw [e1]; exact hP2) (hD2.weaken (fun k q _ h => hAA q.1 h))
    ⟨Nat.le_trans hS.1 (by rw [e1]; exact hz), fun q h1 h2 => by rw [e1, hk q (Nat.lt_of_lt_of_le h1 hS.1) (fun z => h2 (hAA q z))]; exact hS.2.1 q h1 h2, fun q hq => by
      rcases List.mem_append.mp hq with h | h
      · exact hS.2.2 q h
      · exact hAA _ (hL q h)⟩ hl T' rfl Y'
  exact ⟨t2, stp t2 a1, b1⟩
variable {y2 : MethodName} {cc2 : ByteArray} {n2 k2 index nA : Nat} {ret2 : Option FieldType} {av : List Value}
theorem PcR.at (C : Cx p s m args meth c cc nL y ret c0 E A) {H : Heap} {locs : List Loc} (hP : va_P E.D vwCl (X ++ pw E S) H) (hD : va_D A (X ++ pw E S)) (hS : va_S A s.heap H locs) : ∀ U : State, U.heap = H → s.WarmedH U.vm → PcR E av X S H.size av.toArray U := fun U hU hW =>
  ⟨rfl, by rw [hU], by rw [hU]; exact hP, va_K.moved hW.alike C.k, hD.weaken (fun _ _ _ _ => trivial), C.z.go hS (fun q h => by
    rcases h with ⟨k, e9, h⟩ | h
    · exact hD.2 k _ h
    · exact C.a q (Nat.le_trans hS.1 h)) hU hW⟩
theorem g_callV (C : Cx p s m args meth c cc nL y ret c0 E A) {b ci : Nat} {Cn : String} {T : u_T} {N : Nat} (As rest : List Value) (hM : Ctr l y2 (Cond.code y2 cc2 n2 ret2) k2 mc ms E (.ref b :: As) X S Po) (hrecv : ∃ (k0 : Nat) (fs : List Value), (X ++ pw E S)[k0]? = some (b, .inr (ci, fs))) (hc : vwCl[ci]? = some (Cn, T, N)) (hcode : Cond.code y2 cc2 n2 ret2 ∈ wT) (hw : ∀ w ∈ [Cond.methodLink y.cls index y2, Cond.instanceMethod y2, Cond.selects Cn y2 y2, Cond.initialized Cn], w ∈ wT)
    (hdsc : y2.cls = Cn ∧ y2.cls ≠ "java/lang/invoke/MethodHandle" ∧ y2.cls ≠ "java/lang/invoke/VarHandle" ∧ (parseMethodDescriptor y2.desc).map (fun d => d.parameters.length) = some nA) (hnA : As.length = nA) (hst : st = As.reverse ++ .ref b :: rest) (hrs : (rest.map fun v => v.category).sum ≤ 8) (hR : 8 * k2 + 1 ≤ R.frames ∧ 8 + (n2 + 11) + 128 * k2 ≤ R.locals) (hf : cells + mc ≤ R.cells ∧ slots + ms ≤ R.slots) (hd : decode cc pc = .ok (.invokevirtual index, 3))
    (kk : ∀ (v : Option Value) (X2 : va_W) (S2 : HS), Po v X2 S2 → GW p l e R s m args below meth c E nL A Q X2 S2 (cells + mc) (slots + ms) (pc + 3) lv (v.toList ++ rest)) : GW p l e R s m args below meth c E nL A Q X S cells slots pc lv st := by
  intro H locs ls hP hD hS hl
  subst hst
  obtain ⟨k0, fs, hk0⟩ := hrecv
  exact g_ran (va_runV (As := As) (rest := rest) ⟨C.x, C.b, C.ml, C.own, C.ts⟩ (hM H.size) (cwV (C := Cn) nA C.ts (wT_app hcode hw) rfl rfl rfl hdsc hR) ⟨PcR.blind, va_recv C.k hP hc hk0, PcR.at (av := .ref b :: As) C hP hD hS⟩ rfl hnA hl.1 rfl (lv_room hrs) hd hf) C.a hD hS hl kk
theorem g_callS (C : Cx p s m args meth c cc nL y ret c0 E A) (As rest : List Value) (hM : Ctr l y2 (Cond.code y2 cc2 n2 ret2) k2 mc ms E As X S Po) (hcode : Cond.code y2 cc2 n2 ret2 ∈ wT) (hw : ∀ w ∈ [Cond.methodLink y.cls index y2, Cond.static y2, Cond.initialized y2.cls], w ∈ wT)
    (hdsc : y2.cls ≠ "java/lang/invoke/MethodHandle" ∧ y2.cls ≠ "java/lang/invoke/VarHandle" ∧ (parseMethodDescriptor y2.desc).map (fun d => d.parameters.length) = some nA) (hnA : As.length = nA) (hst : st = As.reverse ++ rest) (hrs : (rest.map fun v => v.category).sum ≤ 8) (hR : 8 * k2 + 1 ≤ R.frames ∧ 8 + (n2 + 11) + 128 * k2 ≤ R.locals) (hf : cells + mc ≤ R.cells ∧ slots + ms ≤ R.slots) (hd : decode cc pc = .ok (.invokestatic index, 3))
    (kk : ∀ (v : Option Value) (X2 : va_W) (S2 : HS), Po v X2 S2 → GW p l e R s m args below meth c E nL A Q X2 S2 (cells + mc) (slots + ms) (pc + 3) lv (v.toList ++ rest)) : GW p l e R s m args below meth c E nL A Q X S cells slots pc lv st := by
  intro H locs ls hP hD hS hl
  subst hst
  exact g_ran (va_runS (As := As) (rest := rest) ⟨C.x, C.b, C.ml, C.own, C.ts⟩ (hM H.size) (va_cwS nA C.ts (wT_app hcode hw) rfl rfl rfl hdsc hR) ⟨PcR.blind, PcR.at (av := As) C hP hD hS⟩ rfl hnA hl.1 rfl (lv_room hrs) hd hf) C.a hD hS hl kk
theorem g_callI (C : Cx p s m args meth c cc nL y ret c0 E A) {b : Nat} (As rest : List Value) (hM : Ctr l y2 (Cond.code y2 cc2 n2 none) k2 mc ms E (.ref b :: As) X S Po) (hcode : Cond.code y2 cc2 n2 none ∈ wT) (hini : Cond.initialized y2.cls ∈ wT) (hlk : Cond.methodLink y.cls index y2 ∈ wT) (hins : Cond.instanceMethod y2 ∈ wT) (hy1 : y2.name = "<init>")
    (hdsc : y2.cls ≠ "java/lang/invoke/MethodHandle" ∧ y2.cls ≠ "java/lang/invoke/VarHandle" ∧ (parseMethodDescriptor y2.desc).map (fun d => d.parameters.length) = some nA) (hnA : As.length = nA) (hst : st = As.reverse ++ .ref b :: rest) (hrs : (rest.map fun v => v.category).sum ≤ 8) (hR : 8 * k2 + 1 ≤ R.frames ∧ 8 + (n2 + 11) + 128 * k2 ≤ R.locals) (hf : cells + mc ≤ R.cells ∧ slots + ms ≤ R.slots) (hd : decode cc pc = .ok (.invokespecial index, 3))
    (kk : ∀ (v : Option Value) (X2 : va_W) (S2 : HS), Po v X2 S2 → GW p l e R s m args below meth c E nL A Q X2 S2 (cells + mc) (slots + ms) (pc + 3) lv (v.toList ++ rest)) : GW p l e R s m args below meth c E nL A Q X S cells slots pc lv st := by
  intro H locs ls hP hD hS hl
  subst hst
  exact g_ran (va_runI (As := As) (rest := rest) ⟨C.x, C.b, C.ml, C.own, C.ts⟩ (hM H.size) (cwI nA C.ts (wT_in hcode) rfl rfl rfl (C.w hini) (C.w hlk) (C.w hins) hy1 hdsc hR) ⟨PcR.blind, PcR.at (av := .ref b :: As) C hP hD hS⟩ rfl hnA hl.1 rfl (lv_room hrs) hd hf) C.a hD hS hl kk
theorem g_objInit (C : Cx p s m args meth c cc nL y ret c0 E A) {a : Nat} (hlk : Cond.methodLink y.cls index objectInit ∈ wT) (hR : 1 ≤ R.frames ∧ (st.map fun v => v.category).sum + 12 ≤ R.locals) (hd : decode cc pc = .ok (.invokespecial index, 3)) (hw1 : Cond.instanceMethod objectInit ∈ wT) (hw2 : Cond.code objectInit ⟨#[0xb1]⟩ 1 none ∈ wT) (kk : GW p l e R s m args below meth c E nL A Q X S cells slots (pc + 3) lv st) : GW p l e R s m args below meth c E nL A Q X S cells slots pc lv (.ref a :: st) := by
  intro H locs ls hP hD hS hl
  refine W.objInit C.x C.b C.own (C.w hlk) (C.w hw1) (C.w hw2) rfl (by rw [C.ml]; exact hl.1) rfl hd ?_ ?_ ?_
  · exact hR.1
  · show 2 * 0 + _ + 12 ≤ R.locals; have := hR.2; omega
  · exact kk H locs ls hP hD hS hl
/-! ===== contracts out of walks ===== -/
theorem Ctr.ofG {k : Nat} (hy : plainName y.cls = true) (lv0 : List (Nat × Value)) (hlv : lv_args 0 av = lv0) (hn : (lg_sl av).length ≤ nL)
    (body : ∀ (p : Program) (e : Env) (s : State) (m : MethodId) (args : Array Value) (below : List Frame) (meth : Method) (c : Code) (A : Nat → Prop) (Q : State → Prop), Cx p s m args meth c cc nL y ret (Cond.code y cc nL ret) E A → (∀ t, MQ below (QR E A Po) args s mc ms A t → Q t) → GW p l e (rml k mc ms) s m args below meth c E nL A Q X S 0 0 0 lv0 []) :
    Ctr l y (Cond.code y cc nL ret) k mc ms E av X S Po := by
  intro sz
  refine Met.ofW (cc := cc) (maxL := nL) (ret := ret) hy rfl ?_
  intro p e s m args below meth c s₁ B hml hv
  obtain ⟨rfl, hsz, hP, hK, hD0, hZ⟩ := hv
  subst hsz
  have hts := atoms_spec (ws := Cond.code y cc nL ret :: wT) B.pre
  have hD := hD0.self (sz := s.heap.size)
  have hl := lv_entry av (n := nL) hn
  rw [lg_entry_eq]
  rw [hlv] at hl
  exact body p e s m _ below meth c _ _ ⟨B.exec, B.bytes, hml, findClass_of_methodNamed B.named, hts, hK, fun q h => Or.inr h, hZ, B.returns, B.notSynchronized, (name_of_methodNamed B.named B.method).1⟩ (fun t h => h) s.heap [] _ hP hD va_S.rf hl

end HRows
