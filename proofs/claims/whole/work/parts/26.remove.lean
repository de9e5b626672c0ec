set_option maxRecDepth 100000 in
theorem c_fastRemove (l : Launch) (E : Ev) (X : va_W) (S : HS) {a r i : Nat} {vs : List Nat} (h : isAL E S a r vs) (hi : i < vs.length) (hel : ∀ v ∈ vs, elK S v) : Ctr l yJx4a65c_fastRemove_b59b0 (Cond.code yJx4a65c_fastRemove_b59b0 cJx4a65c_fastRemove_b59b0 4 none) 1 0 0 E [.ref a, .ref r, .int (nI i)] X S (Lst none E X S a r (vs.eraseIdx i)) := by
  refine Ctr.ofG (by decide) [(0, .ref a), (1, .ref r), (2, .int (nI i))] rfl (Nat.le_of_ble_eq_true rfl) ?_
  intro p e s m args below meth c A Q C hQ
  refine g_aload_n C 0 dJx4a65c_fastRemove_b59b0_0 rfl rfl ?_
  refine g_dup C dJx4a65c_fastRemove_b59b0_1 rfl ?_
  refine g_getM C 0 h.1.1 (pF_5 h.1.2) rfl (by decide) in_Jx4a65c lk_Jx4a65c_63 w_sf rfl dJx4a65c_fastRemove_b59b0_2 ?_
  refine g_iconst C 1 dJx4a65c_fastRemove_b59b0_5 (by decide) ?_
  refine g_iadd C dJx4a65c_fastRemove_b59b0_6 ?_
  refine g_putM (ty := .int) (S2 := (S.sI 16 a ((S.I 16 a) + 1))) C 0 h.1.1 (pF_5 h.1.2) rfl (by decide) in_Jx4a65c tyJx4a65c_ok nmJx4a65c lk_Jx4a65c_63 w_sf rfl (by decide +kernel) rfl rfl (Nat.le_of_ble_eq_true rfl) rfl (pu_I16 (S := S) h.1.2 ((S.I 16 a) + 1)) dJx4a65c_fastRemove_b59b0_7 ?_
  generalize hm : S.sI 16 a (S.I 16 a + 1) = S1
  have hz : isAL E S1 a r vs := by rw [← hm]; exact al_mod h
  have hfm : Fr S S1 a r := by rw [← hm]; exact Fr.sI (Or.inl rfl)
  have g := hz.rows (Or.inr (fun e => by rw [e] at hi; exact absurd hi (Nat.not_lt_zero _)))
  have hk := g.1
  have o := rows_q g.2.2.2.2.1 g.2.2.2.2.2
  have hlen := hz.2.2.2.1
  have hgN := g.2.1
  have hgM := g.2.2.2.1
  refine g_aload_n C 0 dJx4a65c_fastRemove_b59b0_10 rfl rfl ?_
  refine g_get (v := .int (nI vs.length)) C 2 hz.1.1 (pF_5 hz.1.2) rfl (by decide) in_Jx4a65c lk_Jx4a65c_48 rfl (congrArg (fun z => some (Value.int z)) hz.2.2.1) dJx4a65c_fastRemove_b59b0_11 ?_
  refine g_iconst C 1 dJx4a65c_fastRemove_b59b0_14 (by decide) ?_
  refine g_isub C dJx4a65c_fastRemove_b59b0_15 ?_
  rw [show nI vs.length - 1 = nI (vs.length - 1) from pk_sub (a := vs.length) (b := 1) (by omega)]
  refine g_dup C dJx4a65c_fastRemove_b59b0_16 rfl ?_
  refine g_istore_n C [(3, .int (nI (vs.length - 1))), (0, .ref a), (1, .ref r), (2, .int (nI i))] dJx4a65c_fastRemove_b59b0_17 rfl (by decide) rfl ?_
  refine g_iload_n C 3 dJx4a65c_fastRemove_b59b0_18 rfl rfl ?_
  refine g_icmp_le C 34 dJx4a65c_fastRemove_b59b0_19 (by decide) (fun h19 => ?_) (fun h19 => ?_)
  · refine g_aload_n C 2 dJx4a65c_fastRemove_b59b0_34 rfl rfl ?_
    refine g_aload_n C 1 dJx4a65c_fastRemove_b59b0_35 rfl rfl ?_
    refine g_iload_n C 0 dJx4a65c_fastRemove_b59b0_36 rfl rfl ?_
    refine g_dup_x1 C dJx4a65c_fastRemove_b59b0_37 rfl rfl ?_
    refine g_put (ty := .int) (S2 := (S1.sI 17 a (nI (vs.length - 1)))) C 2 hz.1.1 (pF_5 hz.1.2) rfl (by decide) in_Jx4a65c tyJx4a65c_ok nmJx4a65c lk_Jx4a65c_48 rfl rfl (by decide +kernel) rfl rfl (Nat.le_of_ble_eq_true rfl) rfl (pu_I17 (S := S1) hz.1.2 (nI (vs.length - 1))) dJx4a65c_fastRemove_b59b0_38 ?_
    refine g_null C dJx4a65c_fastRemove_b59b0_41 ?_
    refine g_aastN C hk.1 hk.2 (vp_in_nI (Nat.lt_of_lt_of_le (by omega : vs.length - 1 < vs.length) hgN) (Nat.lt_of_le_of_lt hgM (by decide))) dJx4a65c_fastRemove_b59b0_42 ?_
    rw [nI_clamp (by omega)]
    exact g_vret C hQ rfl dJx4a65c_fastRemove_b59b0_43 (by decide) (by decide) ⟨rfl, rfl, r, al_del (S2 := S1) hz hk ⟨g.2.2.1, hgM⟩ hi o rfl rfl rfl rfl rfl (fun j hj => by
          have hle : vs.length - 1 ≤ i := (nI_leI (by omega) (by omega)).mp h19
          rw [if_pos (by omega)]) (fun j hj => by rw [o, List.getElem?_eq_none hj]), (hfm.trans (r1 := r) (Fr.sI (Or.inr rfl)) (Or.inl rfl)).trans (r1 := r) Fr.sO (Or.inl rfl), Or.inl rfl⟩
  · refine g_aload_n C 2 dJx4a65c_fastRemove_b59b0_22 rfl rfl ?_
    refine g_iload_n C 3 dJx4a65c_fastRemove_b59b0_23 rfl rfl ?_
    refine g_iconst C 1 dJx4a65c_fastRemove_b59b0_24 (by decide) ?_
    refine g_iadd C dJx4a65c_fastRemove_b59b0_25 ?_
    refine g_aload_n C 2 dJx4a65c_fastRemove_b59b0_26 rfl rfl ?_
    refine g_iload_n C 3 dJx4a65c_fastRemove_b59b0_27 rfl rfl ?_
    refine g_iload_n C 0 dJx4a65c_fastRemove_b59b0_28 rfl rfl ?_
    refine g_iload_n C 3 dJx4a65c_fastRemove_b59b0_29 rfl rfl ?_
    refine g_isub C dJx4a65c_fastRemove_b59b0_30 ?_
    have hgt : i < vs.length - 1 := Nat.lt_of_not_le (fun c => h19 (nI_le c (by omega)))
    rw [pk_sub (Nat.le_of_lt hgt), nI_1]
    refine g_copy C hk.1 hk.2 hk.1 hk.2 (nI_pos (by omega)) (nI_pos (by omega)) (nI_pos (by omega)) (by rw [nI_clamp (by omega), nI_clamp (by omega)]; omega) (by rw [nI_clamp (by omega), nI_clamp (by omega)]; omega) (fun j hj v hv => ?_) wm_Jx4a65c_112 ⟨by decide, Nat.le_of_ble_eq_true rfl⟩ dJx4a65c_fastRemove_b59b0_31 ?_
    · rw [o] at hv; exact hfm.el (hel v (List.mem_of_getElem? hv))
    rw [nI_clamp (by omega), nI_clamp (by omega), nI_clamp (by omega)]
    refine g_aload_n C 2 dJx4a65c_fastRemove_b59b0_34 rfl rfl ?_
    refine g_aload_n C 1 dJx4a65c_fastRemove_b59b0_35 rfl rfl ?_
    refine g_iload_n C 0 dJx4a65c_fastRemove_b59b0_36 rfl rfl ?_
    refine g_dup_x1 C dJx4a65c_fastRemove_b59b0_37 rfl rfl ?_
    refine g_put (ty := .int) (S2 := ((S1.rO r (va_cpy (S1.O r) (S1.O r) (i + 1) i (vs.length - 1 - i))).sI 17 a (nI (vs.length - 1)))) C 2 hz.1.1 (pF_5 hz.1.2) rfl (by decide) in_Jx4a65c tyJx4a65c_ok nmJx4a65c lk_Jx4a65c_48 rfl rfl (by decide +kernel) rfl rfl (Nat.le_of_ble_eq_true rfl) rfl (pu_I17 (S := (S1.rO r (va_cpy (S1.O r) (S1.O r) (i + 1) i (vs.length - 1 - i)))) hz.1.2 (nI (vs.length - 1))) dJx4a65c_fastRemove_b59b0_38 ?_
    refine g_null C dJx4a65c_fastRemove_b59b0_41 ?_
    refine g_aastN C hk.1 hk.2 (vp_in_nI (Nat.lt_of_lt_of_le (by omega : vs.length - 1 < vs.length) hgN) (Nat.lt_of_le_of_lt hgM (by decide))) dJx4a65c_fastRemove_b59b0_42 ?_
    rw [nI_clamp (by omega)]
    exact g_vret C hQ rfl dJx4a65c_fastRemove_b59b0_43 (by decide) (by decide) ⟨rfl, rfl, r, al_del (S2 := S1.rO r (va_cpy (S1.O r) (S1.O r) (i + 1) i (vs.length - 1 - i))) hz hk ⟨g.2.2.1, hgM⟩ hi o rfl rfl rfl rfl rfl (fun j hj => by
          show va_up S1.O r _ r j = _
          rw [va_up_self]
          by_cases c : j < i
          · rw [if_pos c, pk_cpy_out (Or.inl c)]
          · rw [if_neg c, pk_cpy_in (by omega) (by omega)]; congr 1; omega) (fun j hj => by
          show va_up S1.O r _ r j = _
          rw [va_up_self, pk_cpy_out (Or.inr (by omega)), o, List.getElem?_eq_none hj]), ((hfm.trans (r1 := r) Fr.rO (Or.inl rfl)).trans (r1 := r) (Fr.sI (Or.inr rfl)) (Or.inl rfl)).trans (r1 := r) Fr.sO (Or.inl rfl), Or.inl rfl⟩
set_option maxRecDepth 100000 in
theorem c_remove (l : Launch) (E : Ev) (X : va_W) (S : HS) {a r i : Nat} {vs : List Nat} (h : isAL E S a r vs) (hi : i < vs.length) (hel : ∀ v ∈ vs, elK S v) : Ctr l yJx4a65c_remove_915e3 (Cond.code yJx4a65c_remove_915e3 cJx4a65c_remove_915e3 4 (some (.object "java/lang/Object"))) 3 0 0 E [.ref a, .int (nI i)] X S (Lst (some (.ref vs[i])) E X S a r (vs.eraseIdx i)) := by
  refine Ctr.ofG (by decide) [(0, .ref a), (1, .int (nI i))] rfl (Nat.le_of_ble_eq_true rfl) ?_
  intro p e s m args below meth c A Q C hQ
  refine g_iload_n C 1 dJx4a65c_remove_915e3_0 rfl rfl ?_
  refine g_aload_n C 0 dJx4a65c_remove_915e3_1 rfl rfl ?_
  refine g_get (v := .int (nI vs.length)) C 2 h.1.1 (pF_5 h.1.2) rfl (by decide) in_Jx4a65c lk_Jx4a65c_48 rfl (congrArg (fun z => some (Value.int z)) h.2.2.1) dJx4a65c_remove_915e3_2 ?_
  refine g_callS C [.int (nI i), .int (nI vs.length)] [] (c_check2 l E X S hi (by have := h.2.2.2.1; omega)) cm_J15_checkIndex_7cf53 wst_Jx4a65c_118 dt_J15_checkIndex_7cf53 rfl rfl (Nat.le_of_ble_eq_true rfl) (by decide) (by decide) dJx4a65c_remove_915e3_5 ?_
  rintro v X2 S2 ⟨rfl, rfl, rfl⟩
  refine g_pop C dJx4a65c_remove_915e3_8 rfl ?_
  refine g_aload_n C 0 dJx4a65c_remove_915e3_9 rfl rfl ?_
  refine g_get (v := .ref r) C 1 h.1.1 (pF_5 h.1.2) rfl (by decide) in_Jx4a65c lk_Jx4a65c_9 rfl (congrArg (fun z => some (va_rf z)) h.2.1) dJx4a65c_remove_915e3_10 ?_
  refine g_astore_n C [(2, .ref r), (0, .ref a), (1, .int (nI i))] dJx4a65c_remove_915e3_13 rfl (by decide) rfl ?_
  refine g_aload_n C 0 dJx4a65c_remove_915e3_14 rfl rfl ?_
  refine g_iload_n C 2 dJx4a65c_remove_915e3_15 rfl rfl ?_
  have hr := h.real hi
  refine g_aald C hr.1.1 hr.1.2 (vp_in_nI (by omega) (by omega)) dJx4a65c_remove_915e3_16 ?_
  rw [nI_clamp (by omega), hr.2.2.2]
  refine g_astore_n C [(3, .ref vs[i]), (2, .ref r), (0, .ref a), (1, .int (nI i))] dJx4a65c_remove_915e3_17 rfl (by decide) rfl ?_
  refine g_aload_n C 2 dJx4a65c_remove_915e3_18 rfl rfl ?_
  refine g_aload_n C 1 dJx4a65c_remove_915e3_19 rfl rfl ?_
  refine g_iload_n C 3 dJx4a65c_remove_915e3_20 rfl rfl ?_
  refine g_callV C [.ref r, .int (nI i)] [] (c_fastRemove l E X S h hi hel) (recv_at h.1.1 (pF_5 h.1.2)) rfl cm_Jx4a65c_fastRemove_b59b0 wv_Jx4a65c_144 ds_Jx4a65c_fastRemove_b59b0 rfl rfl (Nat.le_of_ble_eq_true rfl) (by decide) (by decide) dJx4a65c_remove_915e3_21 ?_
  rintro v X2 S2 ⟨rfl, rfl, hp⟩
  refine g_aload_n C 0 dJx4a65c_remove_915e3_24 rfl rfl ?_
  exact g_aret C hQ rfl (by first | exact Or.inl ⟨_, rfl⟩ | exact Or.inr ⟨_, rfl⟩) (Or.inr ⟨_, rfl⟩) dJx4a65c_remove_915e3_25 (by decide) (by decide) ⟨rfl, rfl, hp⟩
set_option maxRecDepth 100000 in
theorem c_alClear (l : Launch) (E : Ev) (X : va_W) (S : HS) {a r : Nat} {vs : List Nat} (h : isAL E S a r vs) : Ctr l yJx4a65c_clear_da8c8 (Cond.code yJx4a65c_clear_da8c8 cJx4a65c_clear_da8c8 4 none) 1 0 0 E [.ref a] X S (Lst none E X S a r []) := by
  refine Ctr.ofG (by decide) [(0, .ref a)] rfl (Nat.le_of_ble_eq_true rfl) ?_
  intro p e s m args below meth c A Q C hQ
  refine g_aload_n C 0 dJx4a65c_clear_da8c8_0 rfl rfl ?_
  refine g_dup C dJx4a65c_clear_da8c8_1 rfl ?_
  refine g_getM C 0 h.1.1 (pF_5 h.1.2) rfl (by decide) in_Jx4a65c lk_Jx4a65c_63 w_sf rfl dJx4a65c_clear_da8c8_2 ?_
  refine g_iconst C 1 dJx4a65c_clear_da8c8_5 (by decide) ?_
  refine g_iadd C dJx4a65c_clear_da8c8_6 ?_
  refine g_putM (ty := .int) (S2 := (S.sI 16 a ((S.I 16 a) + 1))) C 0 h.1.1 (pF_5 h.1.2) rfl (by decide) in_Jx4a65c tyJx4a65c_ok nmJx4a65c lk_Jx4a65c_63 w_sf rfl (by decide +kernel) rfl rfl (Nat.le_of_ble_eq_true rfl) rfl (pu_I16 (S := S) h.1.2 ((S.I 16 a) + 1)) dJx4a65c_clear_da8c8_7 ?_
  generalize hm : S.sI 16 a (S.I 16 a + 1) = S1
  have hz : isAL E S1 a r vs := by rw [← hm]; exact al_mod h
  have hfm : Fr S S1 a r := by rw [← hm]; exact Fr.sI (Or.inl rfl)
  have hlen := hz.2.2.2.1
  refine g_aload_n C 0 dJx4a65c_clear_da8c8_10 rfl rfl ?_
  refine g_get (v := .ref r) C 1 hz.1.1 (pF_5 hz.1.2) rfl (by decide) in_Jx4a65c lk_Jx4a65c_9 rfl (congrArg (fun z => some (va_rf z)) hz.2.1) dJx4a65c_clear_da8c8_11 ?_
  refine g_astore_n C [(1, .ref r), (0, .ref a)] dJx4a65c_clear_da8c8_14 rfl (by decide) rfl ?_
  refine g_aload_n C 1 dJx4a65c_clear_da8c8_15 rfl rfl ?_
  refine g_get (v := .int (nI vs.length)) C 2 hz.1.1 (pF_5 hz.1.2) rfl (by decide) in_Jx4a65c lk_Jx4a65c_48 rfl (congrArg (fun z => some (Value.int z)) hz.2.2.1) dJx4a65c_clear_da8c8_16 ?_
  refine g_istore_n C [(2, .int (nI vs.length)), (1, .ref r), (0, .ref a)] dJx4a65c_clear_da8c8_19 rfl (by decide) rfl ?_
  refine g_aload_n C 2 dJx4a65c_clear_da8c8_20 rfl rfl ?_
  refine g_iconst C 0 dJx4a65c_clear_da8c8_21 (by decide) ?_
  refine g_dup_x1 C dJx4a65c_clear_da8c8_22 rfl rfl ?_
  refine g_put (ty := .int) (S2 := (S1.sI 17 a 0)) C 2 hz.1.1 (pF_5 hz.1.2) rfl (by decide) in_Jx4a65c tyJx4a65c_ok nmJx4a65c lk_Jx4a65c_48 rfl rfl (by decide +kernel) rfl rfl (Nat.le_of_ble_eq_true rfl) rfl (pu_I17 (S := S1) hz.1.2 0) dJx4a65c_clear_da8c8_23 ?_
  refine g_istore_n C [(3, .int 0), (2, .int (nI vs.length)), (1, .ref r), (0, .ref a)] dJx4a65c_clear_da8c8_26 rfl (by decide) rfl ?_
  have loop : ∀ (n i : Nat) (S2 : HS), i + n = vs.length → Fr S S2 a r → isK S2 5 a → S2.P 10 a = some r → S2.I 17 a = nI 0 → (r = E.sa 0 ∧ vs = [] ∨ isK S2 7 r ∧ vs.length ≤ S2.N r ∧ 10 ≤ S2.N r ∧ S2.N r ≤ 150 ∧ (∀ j, j < i → S2.O r j = none) ∧ ∀ j, vs.length ≤ j → S2.O r j = none) → GW p l e (rml 1 0 0) s m args below meth c E 4 A Q X S2 0 0 27 [(3, .int (nI i)), (2, .int (nI vs.length)), (1, .ref r), (0, .ref a)] [] := by
    intro n
    induction n with
    | zero =>
      intro i S2 hin hf hka hp hs hr
      refine g_iload_n C 0 dJx4a65c_clear_da8c8_27 rfl rfl ?_
      refine g_iload_n C 1 dJx4a65c_clear_da8c8_28 rfl rfl ?_
      refine g_icmp_ge C 42 dJx4a65c_clear_da8c8_29 (by decide) (fun h29 => ?_) (fun h29 => ?_)
      · exact g_vret C hQ rfl dJx4a65c_clear_da8c8_42 (by decide) (by decide) ⟨rfl, rfl, r, ⟨hka, hp, hs, Nat.zero_le _, by
                rcases hr with hr | ⟨g1, g2, g3, g4, g5, g6⟩
                · exact Or.inl ⟨hr.1, rfl⟩
                · exact Or.inr ⟨g1, Nat.zero_le _, g3, g4, fun j hj => absurd hj (Nat.not_lt_zero _), fun j _ => by
                    by_cases c : j < i
                    · exact g5 j c
                    · exact g6 j (by omega)⟩⟩, hf, Or.inl rfl⟩
      · exact absurd (nI_le (show vs.length ≤ i by omega) (by omega)) h29
    | succ n ih =>
      intro i S2 hin hf hka hp hs hr
      refine g_iload_n C 0 dJx4a65c_clear_da8c8_27 rfl rfl ?_
      refine g_iload_n C 1 dJx4a65c_clear_da8c8_28 rfl rfl ?_
      refine g_icmp_ge C 42 dJx4a65c_clear_da8c8_29 (by decide) (fun h29 => ?_) (fun h29 => ?_)
      · exact absurd ((nI_leI (by omega) (by omega)).mp h29) (by omega)
      · refine g_aload_n C 2 dJx4a65c_clear_da8c8_32 rfl rfl ?_
        refine g_iload_n C 0 dJx4a65c_clear_da8c8_33 rfl rfl ?_
        refine g_null C dJx4a65c_clear_da8c8_34 ?_
        rcases hr with hr | ⟨g1, g2, g3, g4, g5, g6⟩
        · rw [hr.2] at hin; exact absurd hin (by simp)
        refine g_aastN C g1.1 g1.2 (vp_in_nI (by omega) (by omega)) dJx4a65c_clear_da8c8_35 ?_
        rw [nI_clamp (by omega)]
        refine g_iinc C (nI (i + 1)) 0 [(3, .int (nI (i + 1))), (2, .int (nI vs.length)), (1, .ref r), (0, .ref a)] dJx4a65c_clear_da8c8_36 rfl (nI_1 i) (by decide) rfl ?_
        refine g_goto C 27 dJx4a65c_clear_da8c8_39 (by decide) ?_
        refine ih (i + 1) _ (by omega) (hf.trans (r1 := r) Fr.sO (Or.inl rfl)) hka hp hs (Or.inr ⟨g1, g2, g3, g4, fun j hj => ?_, fun j hj => ?_⟩)
        · show u2 S2.O r i none r j = none
          by_cases c : j = i
          · rw [c, u2_self]
          · rw [u2_ne2 c]; exact g5 j (by omega)
        · show u2 S2.O r i none r j = none
          rw [u2_ne2 (by omega)]; exact g6 j hj
  refine loop vs.length 0 _ (by omega) (hfm.trans (r1 := r) (Fr.sI (Or.inr rfl)) (Or.inl rfl)) hz.1 hz.2.1 u2_self ?_
  rcases hz.2.2.2.2 with g | ⟨g1, g2, g3, g4, g5, g6⟩
  · exact Or.inl g
  · exact Or.inr ⟨g1, g2, g3, g4, fun j hj => absurd hj (Nat.not_lt_zero _), g6⟩
set_option maxRecDepth 100000 in
theorem c_acInit (l : Launch) (E : Ev) (X : va_W) (S : HS) (a : Nat) : Ctr l yJxa1e45_init_da8c8 (Cond.code yJxa1e45_init_da8c8 cJxa1e45_init_da8c8 1 none) 1 0 0 E [.ref a] X S (fun v X2 S2 => none = v ∧ X = X2 ∧ S = S2) := by
  refine Ctr.ofG (by decide) [(0, .ref a)] rfl (Nat.le_of_ble_eq_true rfl) ?_
  intro p e s m args below meth c A Q C hQ
  refine g_aload_n C 0 dJxa1e45_init_da8c8_0 rfl rfl ?_
  refine g_objInit C wi_Jxa1e45_1 ⟨by decide, Nat.le_of_ble_eq_true rfl⟩ dJxa1e45_init_da8c8_1 w_oi w_oc ?_
  exact g_vret C hQ rfl dJxa1e45_init_da8c8_4 (by decide) (by decide) ⟨rfl, rfl, rfl⟩
set_option maxRecDepth 100000 in
theorem c_liInit (l : Launch) (E : Ev) (X : va_W) (S : HS) {a : Nat} (h : isK S 5 a) : Ctr l yJxc12de_init_da8c8 (Cond.code yJxc12de_init_da8c8 cJxc12de_init_da8c8 1 none) 2 0 0 E [.ref a] X S (fun v X2 S2 => none = v ∧ X = X2 ∧ S.sI 16 a 0 = S2) := by
  refine Ctr.ofG (by decide) [(0, .ref a)] rfl (Nat.le_of_ble_eq_true rfl) ?_
  intro p e s m args below meth c A Q C hQ
  refine g_aload_n C 0 dJxc12de_init_da8c8_0 rfl rfl ?_
  refine g_callI C [] [] (c_acInit l E X S a) cm_Jxa1e45_init_da8c8 wz_Jxa1e45 wi_Jxc12de_1 wn_Jxa1e45_init_da8c8 rfl dt_Jxa1e45_init_da8c8 rfl rfl (Nat.le_of_ble_eq_true rfl) (by decide) (by decide) dJxc12de_init_da8c8_1 ?_
  rintro v X2 S2 ⟨rfl, rfl, rfl⟩
  refine g_aload_n C 0 dJxc12de_init_da8c8_4 rfl rfl ?_
  refine g_iconst C 0 dJxc12de_init_da8c8_5 (by decide) ?_
  refine g_put (ty := .int) (S2 := (S.sI 16 a 0)) C 0 h.1 (pF_5 h.2) rfl (by decide) in_Jx4a65c tyJx4a65c_ok nmJx4a65c lk_Jxc12de_7 rfl rfl (by decide +kernel) rfl rfl (Nat.le_of_ble_eq_true rfl) rfl (pu_I16 (S := S) h.2 0) dJxc12de_init_da8c8_6 ?_
  exact g_vret C hQ rfl dJxc12de_init_da8c8_9 (by decide) (by decide) ⟨rfl, rfl, rfl⟩
set_option maxRecDepth 100000 in
theorem c_alInit (l : Launch) (E : Ev) (X : va_W) (S : HS) {a : Nat} (h : isK S 5 a) : Ctr l yJx4a65c_init_da8c8 (Cond.code yJx4a65c_init_da8c8 cJx4a65c_init_da8c8 1 none) 3 0 0 E [.ref a] X S (fun v X2 S2 => none = v ∧ X = X2 ∧ (S.sI 16 a 0).sP 10 a (some (E.sa 0)) = S2) := by
  refine Ctr.ofG (by decide) [(0, .ref a)] rfl (Nat.le_of_ble_eq_true rfl) ?_
  intro p e s m args below meth c A Q C hQ
  refine g_aload_n C 0 dJx4a65c_init_da8c8_0 rfl rfl ?_
  refine g_callI C [] [] (c_liInit l E X S h) cm_Jxc12de_init_da8c8 wz_Jxc12de wi_Jx4a65c_1 wn_Jxc12de_init_da8c8 rfl dt_Jxc12de_init_da8c8 rfl rfl (Nat.le_of_ble_eq_true rfl) (by decide) (by decide) dJx4a65c_init_da8c8_1 ?_
  rintro v X2 S2 ⟨rfl, rfl, rfl⟩
  refine g_aload_n C 0 dJx4a65c_init_da8c8_4 rfl rfl ?_
  refine g_empty C lk_Jx4a65c_39 dJx4a65c_init_da8c8_5 ?_
  refine g_put (ty := .array (.object "java/lang/Object")) (S2 := ((S.sI 16 a 0).sP 10 a (some (E.sa 0)))) C 1 h.1 (pF_5 h.2) rfl (by decide) in_Jx4a65c tyJx4a65c_ok nmJx4a65c lk_Jx4a65c_9 rfl rfl (by decide +kernel) rfl rfl (Nat.le_of_ble_eq_true rfl) rfl (pu_P10 (S := (S.sI 16 a 0)) h.2 (some (E.sa 0))) dJx4a65c_init_da8c8_8 ?_
  exact g_vret C hQ rfl dJx4a65c_init_da8c8_11 (by decide) (by decide) ⟨rfl, rfl, rfl⟩
