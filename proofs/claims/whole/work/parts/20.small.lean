theorem recv_at {E : Ev} {X : va_W} {S : HS} {a ci : Nat} {fs : List Value} (hL : a ∈ S.L) (hf : pF E S a = .inr (ci, fs)) : ∃ (k0 : Nat) (fs : List Value), (X ++ pw E S)[k0]? = some (a, .inr (ci, fs)) := by
  obtain ⟨k, hk⟩ := pw_at (E := E) (X := X) hL
  exact ⟨k, fs, by rw [hk, hf]⟩
/-- the world is as it was, and the answer is r -/
def Same (r : Value) (X : va_W) (S : HS) : Option Value → va_W → HS → Prop := fun v X2 S2 => some r = v ∧ X = X2 ∧ S = S2
/-- an object of kind k lies at a -/
def isK (S : HS) (k a : Nat) : Prop := a ∈ S.L ∧ S.K a = k
set_option maxRecDepth 100000 in
theorem c_strength (l : Launch) (E : Ev) (X : va_W) (S : HS) {a t : Nat} (ha : isK S 1 a) (hn : S.P 2 a = some t) (ht : isK S 0 t) : Ctr l yX1_strength (Cond.code yX1_strength cX1_strength 1 (some .int)) 1 0 0 E [.ref a] X S (Same (.int (S.I 8 a * S.I 3 t)) X S) := by
  refine Ctr.ofG (by decide) [(0, .ref a)] rfl (Nat.le_of_ble_eq_true rfl) ?_
  intro p e s m args below meth c A Q C hQ
  refine g_aload_n C 0 dX1_strength_0 rfl rfl ?_
  refine g_get C 1 ha.1 (pF_1 ha.2) rfl (by decide) in_X1 lk_X1_13 rfl rfl dX1_strength_1 ?_
  refine g_aload_n C 0 dX1_strength_4 rfl rfl ?_
  refine g_get (v := .ref t) C 0 ha.1 (pF_1 ha.2) rfl (by decide) in_X1 lk_X1_7 rfl (congrArg (fun z => some (va_rf z)) hn) dX1_strength_5 ?_
  refine g_get C 3 ht.1 (pF_0 ht.2) rfl (by decide) in_X0 lk_X1_17 rfl rfl dX1_strength_8 ?_
  refine g_imul C dX1_strength_11 ?_
  exact g_iret C hQ rfl rfl dX1_strength_12 (by decide) (by decide) ⟨rfl, rfl, rfl⟩
set_option maxRecDepth 100000 in
theorem c_delay (l : Launch) (E : Ev) (X : va_W) (S : HS) {a t : Nat} (ha : isK S 1 a) (hn : S.P 2 a = some t) (ht : isK S 0 t) : Ctr l yX1_delay (Cond.code yX1_delay cX1_delay 1 (some .int)) 2 0 0 E [.ref a] X S (Same (.int (S.I 8 a * S.I 3 t / 1000)) X S) := by
  refine Ctr.ofG (by decide) [(0, .ref a)] rfl (Nat.le_of_ble_eq_true rfl) ?_
  intro p e s m args below meth c A Q C hQ
  refine g_aload_n C 0 dX1_delay_0 rfl rfl ?_
  refine g_callV C [] [] (c_strength l E X S ha hn ht) (recv_at ha.1 (pF_1 ha.2)) rfl cm_X1_strength wv_X1_22 ds_X1_strength rfl rfl (Nat.le_of_ble_eq_true rfl) (by decide) (by decide) dX1_delay_1 ?_
  rintro v X2 S2 ⟨rfl, rfl, rfl⟩
  refine g_sipush C 1000 dX1_delay_4 (by decide) ?_
  refine g_idiv C dX1_delay_7 (by decide) ?_
  exact g_iret C hQ rfl rfl dX1_delay_8 (by decide) (by decide) ⟨rfl, rfl, rfl⟩
set_option maxRecDepth 100000 in
theorem c_bit (l : Launch) (E : Ev) (X : va_W) (S : HS) {a : Nat} (ha : isK S 0 a) : Ctr l yX0_bit (Cond.code yX0_bit cX0_bit 1 (some .long)) 1 0 0 E [.ref a] X S (Same (.long ((1 : Int64) <<< ((S.I 0 a).toInt64 &&& 63))) X S) := by
  refine Ctr.ofG (by decide) [(0, .ref a)] rfl (Nat.le_of_ble_eq_true rfl) ?_
  intro p e s m args below meth c A Q C hQ
  refine g_lconst C 1 dX0_bit_0 (by decide) ?_
  refine g_aload_n C 0 dX0_bit_1 rfl rfl ?_
  refine g_get C 0 ha.1 (pF_0 ha.2) rfl (by decide) in_X0 lk_X0_41 rfl rfl dX0_bit_2 ?_
  refine g_lshl C _ dX0_bit_5 rfl ?_
  exact g_lret C hQ rfl dX0_bit_6 (by decide) (by decide) ⟨rfl, rfl, rfl⟩
