/-- the list at a holds vs2 now; nothing else has changed -/
def Lst (rv : Option Value) (E : Ev) (X : va_W) (S : HS) (a r : Nat) (vs2 : List Nat) : Option Value → va_W → HS → Prop := fun v X2 S2 => rv = v ∧ X = X2 ∧ ∃ r2, isAL E S2 a r2 vs2 ∧ Fr S S2 a r ∧ (r2 = r ∨ r2 ∉ S.L)
theorem al_set {E : Ev} {S : HS} {a r : Nat} {vs : List Nat} (h : isAL E S a r vs) {i : Nat} (hi : i < vs.length) (x : Nat) : isAL E (S.sO r i (some x)) a r (vs.set i x) := by
  have hr := h.real hi
  obtain ⟨h1, h2, h3, h4, h5⟩ := h
  rcases h5 with ⟨-, h5⟩ | ⟨g1, g2, g3, g4, g5, g6⟩
  · subst h5; exact absurd hi (Nat.not_lt_zero _)
  · refine ⟨h1, h2, by rw [List.length_set]; exact h3, by rw [List.length_set]; exact h4, Or.inr ⟨g1, by rw [List.length_set]; exact g2, g3, g4, fun j hj => ?_, fun j hj => ?_⟩⟩
    · show u2 S.O r i (some x) r j = _
      rw [List.length_set] at hj
      by_cases e : j = i
      · subst e; rw [u2_self, List.getElem_set_self]
      · rw [u2_ne2 e, List.getElem_set_ne (Ne.symm e)]; exact g5 j hj
    · show u2 S.O r i (some x) r j = _
      rw [List.length_set] at hj
      rw [u2_ne2 (by omega)]; exact g6 j hj
/-- a list with room takes one more, or loses some, if its row and its size say so -/
theorem al_size {E : Ev} {S S2 : HS} {a r : Nat} {vs vs2 : List Nat} (h : isAL E S a r vs) (hr : isK S 7 r) (hr2 : 10 ≤ S.N r ∧ S.N r ≤ 150) (hL : S2.L = S.L) (hK : S2.K = S.K) (hP : S2.P = S.P) (hN : S2.N = S.N) (hI : S2.I 17 a = nI vs2.length) (hlen : vs2.length ≤ S.N r) (h100 : vs2.length ≤ 100) (hO : ∀ (i : Nat) (h : i < vs2.length), S2.O r i = some vs2[i]) (hO2 : ∀ i : Nat, vs2.length ≤ i → S2.O r i = none) : isAL E S2 a r vs2 := by
  obtain ⟨h1, h2, h3, h4, h5⟩ := h
  have eK : ∀ k b, isK S k b → isK S2 k b := fun k b hb => ⟨by rw [hL]; exact hb.1, by rw [hK]; exact hb.2⟩
  refine ⟨eK _ _ h1, by rw [hP]; exact h2, hI, h100, Or.inr ⟨eK _ _ hr, by rw [hN]; exact hlen, by rw [hN]; exact hr2.1, by rw [hN]; exact hr2.2, hO, hO2⟩⟩
set_option maxRecDepth 100000 in
theorem c_set (l : Launch) (E : Ev) (X : va_W) (S : HS) {a r : Nat} {vs : List Nat} (h : isAL E S a r vs) {i x : Nat} (hi : i < vs.length) (hx : elK S x) : Ctr l yJx4a65c_set_bcc79 (Cond.code yJx4a65c_set_bcc79 cJx4a65c_set_bcc79 4 (some (.object "java/lang/Object"))) 3 0 0 E [.ref a, .int (nI i), .ref x] X S (Lst (some (.ref vs[i])) E X S a r (vs.set i x)) := by
  refine Ctr.ofG (by decide) [(0, .ref a), (1, .int (nI i)), (2, .ref x)] rfl (Nat.le_of_ble_eq_true rfl) ?_
  intro p e s m args below meth c A Q C hQ
  refine g_iload_n C 1 dJx4a65c_set_bcc79_0 rfl rfl ?_
  refine g_aload_n C 0 dJx4a65c_set_bcc79_1 rfl rfl ?_
  refine g_get (v := .int (nI vs.length)) C 2 h.1.1 (pF_5 h.1.2) rfl (by decide) in_Jx4a65c lk_Jx4a65c_48 rfl (congrArg (fun z => some (Value.int z)) h.2.2.1) dJx4a65c_set_bcc79_2 ?_
  refine g_callS C [.int (nI i), .int (nI vs.length)] [] (c_check2 l E X S hi (by have := h.2.2.2.1; omega)) cm_J15_checkIndex_7cf53 wst_Jx4a65c_118 dt_J15_checkIndex_7cf53 rfl rfl (Nat.le_of_ble_eq_true rfl) (by decide) (by decide) dJx4a65c_set_bcc79_5 ?_
  rintro v X2 S2 ⟨rfl, rfl, rfl⟩
  refine g_pop C dJx4a65c_set_bcc79_8 rfl ?_
  refine g_aload_n C 0 dJx4a65c_set_bcc79_9 rfl rfl ?_
  refine g_iload_n C 1 dJx4a65c_set_bcc79_10 rfl rfl ?_
  refine g_callV C [.int (nI i)] [] (c_elData l E X S h hi) (recv_at h.1.1 (pF_5 h.1.2)) rfl cm_Jx4a65c_elementData_915e3 wv_Jx4a65c_123 ds_Jx4a65c_elementData_915e3 rfl rfl (Nat.le_of_ble_eq_true rfl) (by decide) (by decide) dJx4a65c_set_bcc79_11 ?_
  rintro v X2 S2 ⟨rfl, rfl, rfl⟩
  refine g_astore_n C [(3, .ref vs[i]), (0, .ref a), (1, .int (nI i)), (2, .ref x)] dJx4a65c_set_bcc79_14 rfl (by decide) rfl ?_
  refine g_aload_n C 1 dJx4a65c_set_bcc79_15 rfl rfl ?_
  refine g_get (v := .ref r) C 1 h.1.1 (pF_5 h.1.2) rfl (by decide) in_Jx4a65c lk_Jx4a65c_9 rfl (congrArg (fun z => some (va_rf z)) h.2.1) dJx4a65c_set_bcc79_16 ?_
  refine g_iload_n C 2 dJx4a65c_set_bcc79_19 rfl rfl ?_
  refine g_aload_n C 3 dJx4a65c_set_bcc79_20 rfl rfl ?_
  have hr := h.real hi
  refine g_aastE C hr.1.1 hr.1.2 (vp_in_nI (by omega) (by omega)) hx dJx4a65c_set_bcc79_21 ?_
  rw [nI_clamp (by omega)]
  refine g_aload_n C 0 dJx4a65c_set_bcc79_22 rfl rfl ?_
  exact g_aret C hQ rfl (by first | exact Or.inl ⟨_, rfl⟩ | exact Or.inr ⟨_, rfl⟩) (Or.inr ⟨_, rfl⟩) dJx4a65c_set_bcc79_23 (by decide) (by decide) ⟨rfl, rfl, r, al_set h hi x, Fr.sO, Or.inl rfl⟩
theorem mx_half {n : Nat} (h2 : 2 ≤ n) (h3 : n ≤ 1000) : (if nI 1 < nI (n / 2) then nI (n / 2) else nI 1) = nI (n / 2) := by
  by_cases c : 1 < n / 2
  · rw [if_pos (nI_lt c (by omega))]
  · rw [if_neg (nI_nlt (by omega) (by decide)), show n / 2 = 1 by omega]
set_option maxRecDepth 100000 in
theorem c_newLength (l : Launch) (E : Ev) (X : va_W) (S : HS) {n : Nat} (h2 : 2 ≤ n) (h3 : n ≤ 1000) : Ctr l yJ8_newLength_cabcc (Cond.code yJ8_newLength_cabcc cJ8_newLength_cabcc 4 (some .int)) 1 0 0 E [.int (nI n), .int (nI 1), .int (nI (n / 2))] X S (Same (.int (nI (n + n / 2))) X S) := by
  refine Ctr.ofG (by decide) [(0, .int (nI n)), (1, .int (nI 1)), (2, .int (nI (n / 2)))] rfl (Nat.le_of_ble_eq_true rfl) ?_
  intro p e s m args below meth c A Q C hQ
  refine g_iload_n C 0 dJ8_newLength_cabcc_0 rfl rfl ?_
  refine g_iload_n C 1 dJ8_newLength_cabcc_1 rfl rfl ?_
  refine g_iload_n C 2 dJ8_newLength_cabcc_2 rfl rfl ?_
  refine g_max C wm_J8_194 ⟨by decide, Nat.le_of_ble_eq_true rfl⟩ (by decide) dJ8_newLength_cabcc_3 ?_
  rw [mx_half h2 h3]
  refine g_iadd C dJ8_newLength_cabcc_6 ?_
  rw [nI_add]
  refine g_istore_n C [(3, .int (nI (n + n / 2))), (0, .int (nI n)), (1, .int (nI 1)), (2, .int (nI (n / 2)))] dJ8_newLength_cabcc_7 rfl (by decide) rfl ?_
  refine g_iconst C 0 dJ8_newLength_cabcc_8 (by decide) ?_
  refine g_iload_n C 0 dJ8_newLength_cabcc_9 rfl rfl ?_
  refine g_icmp_ge C 21 dJ8_newLength_cabcc_10 (by decide) (fun h10 => ?_) (fun h10 => ?_)
  · first | exact absurd (show nI 0 < nI (n + n / 2) from nI_lt (by omega) (by omega)) (fun q => by have := Int32.not_lt.mpr h10; exact this q) | exact absurd h16 (show ¬ nI 2147483639 < nI (n + n / 2) from nI_nlt (by omega) (by decide))
  · refine g_iload_n C 0 dJ8_newLength_cabcc_13 rfl rfl ?_
    refine g_ldc C kc_J8_200 dJ8_newLength_cabcc_14 ?_
    refine g_icmp_gt C 21 dJ8_newLength_cabcc_16 (by decide) (fun h16 => ?_) (fun h16 => ?_)
    · first | exact absurd (show nI 0 < nI (n + n / 2) from nI_lt (by omega) (by omega)) (fun q => by have := Int32.not_lt.mpr h10; exact this q) | exact absurd h16 (show ¬ nI 2147483639 < nI (n + n / 2) from nI_nlt (by omega) (by decide))
    · refine g_iload_n C 0 dJ8_newLength_cabcc_19 rfl rfl ?_
      exact g_iret C hQ rfl rfl dJ8_newLength_cabcc_20 (by decide) (by decide) ⟨rfl, rfl, rfl⟩
