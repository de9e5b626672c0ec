theorem al_by {E : Ev} {S S2 : HS} {a r : Nat} {vs vs2 : List Nat} (h : isAL E S a r vs) (hr : isK S 7 r) (hr2 : 10 ≤ S.N r ∧ S.N r ≤ 150) (hL : S2.L = S.L) (hK : S2.K = S.K) (hP : S2.P = S.P) (hN : S2.N = S.N) (hI : S2.I 17 a = nI vs2.length) (hlen : vs2.length ≤ S.N r) (h100 : vs2.length ≤ 100) (hO : ∀ i, S2.O r i = vs2[i]?) : isAL E S2 a r vs2 :=
  al_size h hr hr2 hL hK hP hN hI hlen h100 (fun i hi => (hO i).trans (List.getElem?_eq_getElem hi)) (fun i hi => (hO i).trans (List.getElem?_eq_none hi))
theorem rows_q {O : Nat → Option Nat} {vs : List Nat} (o1 : ∀ (i : Nat) (h : i < vs.length), O i = some vs[i]) (o2 : ∀ i : Nat, vs.length ≤ i → O i = none) (i : Nat) : O i = vs[i]? := by
  by_cases c : i < vs.length
  · rw [o1 i c, List.getElem?_eq_getElem c]
  · rw [o2 i (by omega), List.getElem?_eq_none (by omega)]
theorem ins_get (vs : List Nat) (e i j : Nat) (hi : i ≤ vs.length) : (vs.take i ++ e :: vs.drop i)[j]? = if j < i then vs[j]? else if j = i then some e else vs[j - 1]? := by
  rw [List.getElem?_append, List.length_take, Nat.min_eq_left hi]
  by_cases c : j < i
  · rw [if_pos c, if_pos c, List.getElem?_take, if_pos c]
  · rw [if_neg c, if_neg c]
    by_cases d : j = i
    · rw [if_pos d, d, Nat.sub_self]; rfl
    · rw [if_neg d, show j - i = (j - i - 1) + 1 by omega, List.getElem?_cons_succ, List.getElem?_drop]
      congr 1; omega
theorem al_ins {E : Ev} {S : HS} {a r : Nat} {vs : List Nat} (h : isAL E S a r vs) (hr : isK S 7 r) (h1 : 10 ≤ S.N r ∧ S.N r ≤ 150) (hlt : vs.length < S.N r) (h100 : vs.length < 100) (e : Nat) {i : Nat} (hi : i ≤ vs.length) (o : ∀ i, S.O r i = vs[i]?) : isAL E (((S.rO r (va_cpy (S.O r) (S.O r) i (i + 1) (vs.length - i))).sO r i (some e)).sI 17 a (nI (vs.length + 1))) a r (vs.take i ++ e :: vs.drop i) := by
  have hl : (vs.take i ++ e :: vs.drop i).length = vs.length + 1 := by simp; omega
  refine al_by h hr h1 rfl rfl rfl rfl (by rw [hl]; exact u2_self) (by omega) (by omega) (fun j => ?_)
  rw [ins_get vs e i j hi]
  show u2 (va_up S.O r _) r i (some e) r j = _
  by_cases c : j = i
  · rw [c, u2_self, if_neg (Nat.lt_irrefl _), if_pos rfl]
  · rw [u2_ne2 c, va_up_self]
    by_cases d : j < i
    · rw [pk_cpy_out (Or.inl (by omega)), if_pos d]; exact o j
    · rw [if_neg d, if_neg c]
      by_cases f : j < vs.length + 1
      · rw [pk_cpy_in (by omega) (by omega), o]; congr 1; omega
      · rw [pk_cpy_out (Or.inr (by omega)), o, List.getElem?_eq_none (by omega), List.getElem?_eq_none (by omega)]
theorem al_del {E : Ev} {S S2 : HS} {a r : Nat} {vs : List Nat} (h : isAL E S a r vs) (hr : isK S 7 r) (h1 : 10 ≤ S.N r ∧ S.N r ≤ 150) {i : Nat} (hi : i < vs.length) (o : ∀ j, S.O r j = vs[j]?) (hL : S2.L = S.L) (hK : S2.K = S.K) (hP : S2.P = S.P) (hN : S2.N = S.N) (hI : S2.I = S.I) (hO : ∀ j, j + 1 < vs.length → S2.O r j = if j < i then S.O r j else S.O r (j + 1)) (hO2 : ∀ j, vs.length ≤ j → S2.O r j = none) : isAL E ((S2.sI 17 a (nI (vs.length - 1))).sO r (vs.length - 1) none) a r (vs.eraseIdx i) := by
  have hl : (vs.eraseIdx i).length = vs.length - 1 := List.length_eraseIdx_of_lt hi
  have hn := h.rows (Or.inr (fun e => by rw [e] at hi; exact absurd hi (Nat.not_lt_zero _)))
  refine al_by h hr h1 hL hK hP hN (by rw [hl]; exact u2_self) (by omega) (by have := h.2.2.2.1; omega) (fun j => ?_)
  rw [List.getElem?_eraseIdx]
  show u2 S2.O r (vs.length - 1) none r j = _
  by_cases c : j = vs.length - 1
  · rw [c, u2_self, if_neg (by omega), List.getElem?_eq_none (by omega)]
  · rw [u2_ne2 c]
    by_cases d : j + 1 < vs.length
    · rw [hO j d]
      by_cases f : j < i
      · rw [if_pos f, if_pos f]; exact o j
      · rw [if_neg f, if_neg f]; exact o (j + 1)
    · rw [hO2 j (by omega), if_neg (by omega), List.getElem?_eq_none (by omega)]
set_option maxRecDepth 100000 in
theorem c_rcfa (l : Launch) (E : Ev) (X : va_W) (S : HS) {a r i : Nat} {vs : List Nat} (h : isAL E S a r vs) (hi : i ≤ vs.length) (hlen : vs.length < 100) : Ctr l yJx4a65c_rangeCheckForAdd_d00df (Cond.code yJx4a65c_rangeCheckForAdd_d00df cJx4a65c_rangeCheckForAdd_d00df 2 none) 1 0 0 E [.ref a, .int (nI i)] X S (fun v X2 S2 => none = v ∧ X = X2 ∧ S = S2) := by
  refine Ctr.ofG (by decide) [(0, .ref a), (1, .int (nI i))] rfl (Nat.le_of_ble_eq_true rfl) ?_
  intro p e s m args below meth c A Q C hQ
  refine g_iload_n C 1 dJx4a65c_rangeCheckForAdd_d00df_0 rfl rfl ?_
  refine g_aload_n C 0 dJx4a65c_rangeCheckForAdd_d00df_1 rfl rfl ?_
  refine g_get (v := .int (nI vs.length)) C 2 h.1.1 (pF_5 h.1.2) rfl (by decide) in_Jx4a65c lk_Jx4a65c_48 rfl (congrArg (fun z => some (Value.int z)) h.2.2.1) dJx4a65c_rangeCheckForAdd_d00df_2 ?_
  refine g_icmp_gt C 12 dJx4a65c_rangeCheckForAdd_d00df_5 (by decide) (fun h5 => ?_) (fun h5 => ?_)
  · first | exact absurd h5 (nI_nlt hi (by omega)) | exact absurd (nI_pos' (by omega)) h9
  · refine g_iload_n C 1 dJx4a65c_rangeCheckForAdd_d00df_8 rfl rfl ?_
    refine g_if_ge C 25 dJx4a65c_rangeCheckForAdd_d00df_9 (by decide) (fun h9 => ?_) (fun h9 => ?_)
    · exact g_vret C hQ rfl dJx4a65c_rangeCheckForAdd_d00df_25 (by decide) (by decide) ⟨rfl, rfl, rfl⟩
    · first | exact absurd h5 (nI_nlt hi (by omega)) | exact absurd (nI_pos' (by omega)) h9
set_option maxRecDepth 100000 in
theorem c_addAtR (l : Launch) (E : Ev) (X : va_W) (S : HS) {a r x i : Nat} {vs : List Nat} (h : isAL E S a r vs) (hi : i ≤ vs.length) (h100 : vs.length < 100) (hel : ∀ v ∈ vs, elK S v) (hx : elK S x) (hr : isK S 7 r) (hlt : vs.length < S.N r) (h1 : 10 ≤ S.N r ∧ S.N r ≤ 150) (o1 : ∀ i (hi : i < vs.length), S.O r i = some vs[i]) (o2 : ∀ i, vs.length ≤ i → S.O r i = none) : Ctr l yJx4a65c_add_7a177 (Cond.code yJx4a65c_add_7a177 cJx4a65c_add_7a177 5 none) 5 1 150 E [.ref a, .int (nI i), .ref x] X S (Lst none E X S a r (vs.take i ++ x :: vs.drop i)) := by
  refine Ctr.ofG (by decide) [(0, .ref a), (1, .int (nI i)), (2, .ref x)] rfl (Nat.le_of_ble_eq_true rfl) ?_
  intro p e s m args below meth c A Q C hQ
  refine g_aload_n C 0 dJx4a65c_add_7a177_0 rfl rfl ?_
  refine g_iload_n C 1 dJx4a65c_add_7a177_1 rfl rfl ?_
  refine g_callV C [.int (nI i)] [] (c_rcfa l E X S h hi h100) (recv_at h.1.1 (pF_5 h.1.2)) rfl cm_Jx4a65c_rangeCheckForAdd_d00df wv_Jx4a65c_135 ds_Jx4a65c_rangeCheckForAdd_d00df rfl rfl (Nat.le_of_ble_eq_true rfl) (by decide) (by decide) dJx4a65c_add_7a177_2 ?_
  rintro v X2 S2 ⟨rfl, rfl, rfl⟩
  refine g_aload_n C 0 dJx4a65c_add_7a177_5 rfl rfl ?_
  refine g_dup C dJx4a65c_add_7a177_6 rfl ?_
  refine g_getM C 0 h.1.1 (pF_5 h.1.2) rfl (by decide) in_Jx4a65c lk_Jx4a65c_63 w_sf rfl dJx4a65c_add_7a177_7 ?_
  refine g_iconst C 1 dJx4a65c_add_7a177_10 (by decide) ?_
  refine g_iadd C dJx4a65c_add_7a177_11 ?_
  refine g_putM (ty := .int) (S2 := (S.sI 16 a ((S.I 16 a) + 1))) C 0 h.1.1 (pF_5 h.1.2) rfl (by decide) in_Jx4a65c tyJx4a65c_ok nmJx4a65c lk_Jx4a65c_63 w_sf rfl (by decide +kernel) rfl rfl (Nat.le_of_ble_eq_true rfl) rfl (pu_I16 (S := S) h.1.2 ((S.I 16 a) + 1)) dJx4a65c_add_7a177_12 ?_
  generalize hm : S.sI 16 a (S.I 16 a + 1) = S1
  have hz : isAL E S1 a r vs := by rw [← hm]; exact al_mod h
  have hfm : Fr S S1 a r := by rw [← hm]; exact Fr.sI (Or.inl rfl)
  have hr1 : isK S1 7 r := hfm.K hr
  have hN1 : S1.N r = S.N r := (hfm.2.2.2.2.2.1 r hr.1).1
  refine g_aload_n C 0 dJx4a65c_add_7a177_15 rfl rfl ?_
  refine g_get (v := .int (nI vs.length)) C 2 hz.1.1 (pF_5 hz.1.2) rfl (by decide) in_Jx4a65c lk_Jx4a65c_48 rfl (congrArg (fun z => some (Value.int z)) hz.2.2.1) dJx4a65c_add_7a177_16 ?_
  refine g_dup C dJx4a65c_add_7a177_19 rfl ?_
  refine g_istore_n C [(3, .int (nI vs.length)), (0, .ref a), (1, .int (nI i)), (2, .ref x)] dJx4a65c_add_7a177_20 rfl (by decide) rfl ?_
  refine g_aload_n C 1 dJx4a65c_add_7a177_21 rfl rfl ?_
  refine g_get (v := .ref r) C 1 hz.1.1 (pF_5 hz.1.2) rfl (by decide) in_Jx4a65c lk_Jx4a65c_9 rfl (congrArg (fun z => some (va_rf z)) hz.2.1) dJx4a65c_add_7a177_22 ?_
  refine g_dup C dJx4a65c_add_7a177_25 rfl ?_
  refine g_astore C [(4, .ref r), (3, .int (nI vs.length)), (0, .ref a), (1, .int (nI i)), (2, .ref x)] dJx4a65c_add_7a177_26 (by decide) rfl ?_
  refine g_alen (t0 := 2) C (nI (S.N r)) hr1.1 (pF_7 hr1.2) rfl (by show nI (S1.N r) = _; rw [hN1]) dJx4a65c_add_7a177_28 ?_
  refine g_icmp_ne C 38 dJx4a65c_add_7a177_29 (by decide) (fun h29 => ?_) (fun h29 => ?_)
  · have h2 := hz
    have hk := hr1
    have n1 : vs.length < S1.N r := by rw [hN1]; exact hlt
    have n2 : 10 ≤ S1.N r := by rw [hN1]; exact h1.1
    have n3 : S1.N r ≤ 150 := by rw [hN1]; exact h1.2
    have hxx : elK S1 x := hfm.el hx
    have hee : ∀ v ∈ vs, elK S1 v := fun v hv => hfm.el (hel v hv)
    have o : ∀ j, S1.O r j = vs[j]? := fun j => by rw [← hm]; exact rows_q o1 o2 j
    refine g_aload C 0 dJx4a65c_add_7a177_38 rfl ?_
    refine g_iload_n C 3 dJx4a65c_add_7a177_40 rfl rfl ?_
    refine g_aload C 0 dJx4a65c_add_7a177_41 rfl ?_
    refine g_iload_n C 3 dJx4a65c_add_7a177_43 rfl rfl ?_
    refine g_iconst C 1 dJx4a65c_add_7a177_44 (by decide) ?_
    refine g_iadd C dJx4a65c_add_7a177_45 ?_
    refine g_iload_n C 1 dJx4a65c_add_7a177_46 rfl rfl ?_
    refine g_iload_n C 3 dJx4a65c_add_7a177_47 rfl rfl ?_
    refine g_isub C dJx4a65c_add_7a177_48 ?_
    rw [pk_sub hi, nI_1]
    refine g_copy C hk.1 hk.2 hk.1 hk.2 (nI_pos (by omega)) (nI_pos (by omega)) (nI_pos (by omega)) (by rw [nI_clamp (by omega), nI_clamp (by omega)]; omega) (by rw [nI_clamp (by omega), nI_clamp (by omega)]; omega) (fun j hj v hv => ?_) wm_Jx4a65c_112 ⟨by decide, Nat.le_of_ble_eq_true rfl⟩ dJx4a65c_add_7a177_49 ?_
    · rw [o] at hv; exact hee v (List.mem_of_getElem? hv)
    rw [nI_clamp (by omega), nI_clamp (by omega), nI_clamp (by omega)]
    refine g_aload C 0 dJx4a65c_add_7a177_52 rfl ?_
    refine g_iload_n C 3 dJx4a65c_add_7a177_54 rfl rfl ?_
    refine g_aload_n C 4 dJx4a65c_add_7a177_55 rfl rfl ?_
    refine g_aastE C hk.1 hk.2 (vp_in_nI (Nat.lt_of_le_of_lt hi n1) (Nat.lt_of_le_of_lt n3 (by decide))) hxx dJx4a65c_add_7a177_56 ?_
    rw [nI_clamp (by omega)]
    refine g_aload_n C 2 dJx4a65c_add_7a177_57 rfl rfl ?_
    refine g_iload_n C 1 dJx4a65c_add_7a177_58 rfl rfl ?_
    refine g_iconst C 1 dJx4a65c_add_7a177_59 (by decide) ?_
    refine g_iadd C dJx4a65c_add_7a177_60 ?_
    rw [nI_1]
    refine g_put (ty := .int) (S2 := (((S1.rO r (va_cpy (S1.O r) (S1.O r) i (i + 1) (vs.length - i))).sO r i (some x)).sI 17 a (nI (vs.length + 1)))) C 2 h2.1.1 (pF_5 h2.1.2) rfl (by decide) in_Jx4a65c tyJx4a65c_ok nmJx4a65c lk_Jx4a65c_48 rfl rfl (by decide +kernel) rfl rfl (Nat.le_of_ble_eq_true rfl) rfl (pu_I17 (S := ((S1.rO r (va_cpy (S1.O r) (S1.O r) i (i + 1) (vs.length - i))).sO r i (some x))) h2.1.2 (nI (vs.length + 1))) dJx4a65c_add_7a177_61 ?_
    exact g_vret C hQ rfl dJx4a65c_add_7a177_64 (by decide) (by decide) ⟨rfl, rfl, r, al_ins h2 hk ⟨n2, n3⟩ n1 h100 x hi o, ((hfm.trans (r1 := r) Fr.rO (Or.inl rfl)).trans (r1 := r) Fr.sO (Or.inl rfl)).trans (r1 := r) (Fr.sI (Or.inr rfl)) (Or.inl rfl), Or.inl rfl⟩
  · exact absurd ((nI_eq (by omega) (by omega)).mp h29) (by omega)
set_option maxRecDepth 100000 in
theorem c_addAtF (l : Launch) (E : Ev) (X : va_W) (S : HS) {a r x i : Nat} {vs : List Nat} (h : isAL E S a r vs) (hi : i ≤ vs.length) (h100 : vs.length < 100) (hel : ∀ v ∈ vs, elK S v) (hx : elK S x) (hr : isK S 7 r) (hN : S.N r = vs.length) (hF : Ful E S r vs) : Ctr l yJx4a65c_add_7a177 (Cond.code yJx4a65c_add_7a177 cJx4a65c_add_7a177 5 none) 5 1 150 E [.ref a, .int (nI i), .ref x] X S (Lst none E X S a r (vs.take i ++ x :: vs.drop i)) := by
  refine Ctr.ofG (by decide) [(0, .ref a), (1, .int (nI i)), (2, .ref x)] rfl (Nat.le_of_ble_eq_true rfl) ?_
  intro p e s m args below meth c A Q C hQ
  refine g_aload_n C 0 dJx4a65c_add_7a177_0 rfl rfl ?_
  refine g_iload_n C 1 dJx4a65c_add_7a177_1 rfl rfl ?_
  refine g_callV C [.int (nI i)] [] (c_rcfa l E X S h hi h100) (recv_at h.1.1 (pF_5 h.1.2)) rfl cm_Jx4a65c_rangeCheckForAdd_d00df wv_Jx4a65c_135 ds_Jx4a65c_rangeCheckForAdd_d00df rfl rfl (Nat.le_of_ble_eq_true rfl) (by decide) (by decide) dJx4a65c_add_7a177_2 ?_
  rintro v X2 S2 ⟨rfl, rfl, rfl⟩
  refine g_aload_n C 0 dJx4a65c_add_7a177_5 rfl rfl ?_
  refine g_dup C dJx4a65c_add_7a177_6 rfl ?_
  refine g_getM C 0 h.1.1 (pF_5 h.1.2) rfl (by decide) in_Jx4a65c lk_Jx4a65c_63 w_sf rfl dJx4a65c_add_7a177_7 ?_
  refine g_iconst C 1 dJx4a65c_add_7a177_10 (by decide) ?_
  refine g_iadd C dJx4a65c_add_7a177_11 ?_
  refine g_putM (ty := .int) (S2 := (S.sI 16 a ((S.I 16 a) + 1))) C 0 h.1.1 (pF_5 h.1.2) rfl (by decide) in_Jx4a65c tyJx4a65c_ok nmJx4a65c lk_Jx4a65c_63 w_sf rfl (by decide +kernel) rfl rfl (Nat.le_of_ble_eq_true rfl) rfl (pu_I16 (S := S) h.1.2 ((S.I 16 a) + 1)) dJx4a65c_add_7a177_12 ?_
  generalize hm : S.sI 16 a (S.I 16 a + 1) = S1
  have hz : isAL E S1 a r vs := by rw [← hm]; exact al_mod h
  have hfm : Fr S S1 a r := by rw [← hm]; exact Fr.sI (Or.inl rfl)
  have hr1 : isK S1 7 r := hfm.K hr
  have hN1 : S1.N r = S.N r := (hfm.2.2.2.2.2.1 r hr.1).1
  refine g_aload_n C 0 dJx4a65c_add_7a177_15 rfl rfl ?_
  refine g_get (v := .int (nI vs.length)) C 2 hz.1.1 (pF_5 hz.1.2) rfl (by decide) in_Jx4a65c lk_Jx4a65c_48 rfl (congrArg (fun z => some (Value.int z)) hz.2.2.1) dJx4a65c_add_7a177_16 ?_
  refine g_dup C dJx4a65c_add_7a177_19 rfl ?_
  refine g_istore_n C [(3, .int (nI vs.length)), (0, .ref a), (1, .int (nI i)), (2, .ref x)] dJx4a65c_add_7a177_20 rfl (by decide) rfl ?_
  refine g_aload_n C 1 dJx4a65c_add_7a177_21 rfl rfl ?_
  refine g_get (v := .ref r) C 1 hz.1.1 (pF_5 hz.1.2) rfl (by decide) in_Jx4a65c lk_Jx4a65c_9 rfl (congrArg (fun z => some (va_rf z)) hz.2.1) dJx4a65c_add_7a177_22 ?_
  refine g_dup C dJx4a65c_add_7a177_25 rfl ?_
  refine g_astore C [(4, .ref r), (3, .int (nI vs.length)), (0, .ref a), (1, .int (nI i)), (2, .ref x)] dJx4a65c_add_7a177_26 (by decide) rfl ?_
  refine g_alen (t0 := 2) C (nI (vs.length)) hr1.1 (pF_7 hr1.2) rfl (by show nI (S1.N r) = _; rw [hN1, hN]) dJx4a65c_add_7a177_28 ?_
  refine g_icmp_ne C 38 dJx4a65c_add_7a177_29 (by decide) (fun h29 => ?_) (fun h29 => ?_)
  · exact absurd rfl h29
  · refine g_aload_n C 2 dJx4a65c_add_7a177_32 rfl rfl ?_
    refine g_callV C [] [] (c_grow0 l E X S1 hz (by rw [← hm]; exact hF) h100 (fun v hv => hfm.el (hel v hv))) (recv_at hz.1.1 (pF_5 hz.1.2)) rfl cm_Jx4a65c_grow_d5877 wv_Jx4a65c_129 ds_Jx4a65c_grow_d5877 rfl rfl (Nat.le_of_ble_eq_true rfl) (by decide) (by decide) dJx4a65c_add_7a177_33 ?_
    rintro v X2 S2 ⟨rfl, q, rfl, hq, h2, hk, n1, n2, n3, hf⟩
    have hxx : elK S2 x := hf.el (hfm.el hx)
    have hee : ∀ v ∈ vs, elK S2 v := fun v hv => hf.el (hfm.el (hel v hv))
    refine g_know C (fun kn1 _ kn3 => ?_)
    have o : ∀ j, S2.O q j = vs[j]? := by have g := h2.rows (Or.inl (fun e => kn3 (e ▸ kn1 _ hk.1))); exact rows_q g.2.2.2.2.1 g.2.2.2.2.2
    refine g_astore C [(4, .ref q), (3, .int (nI vs.length)), (0, .ref a), (1, .int (nI i)), (2, .ref x)] dJx4a65c_add_7a177_36 (by decide) rfl ?_
    refine g_aload C 0 dJx4a65c_add_7a177_38 rfl ?_
    refine g_iload_n C 3 dJx4a65c_add_7a177_40 rfl rfl ?_
    refine g_aload C 0 dJx4a65c_add_7a177_41 rfl ?_
    refine g_iload_n C 3 dJx4a65c_add_7a177_43 rfl rfl ?_
    refine g_iconst C 1 dJx4a65c_add_7a177_44 (by decide) ?_
    refine g_iadd C dJx4a65c_add_7a177_45 ?_
    refine g_iload_n C 1 dJx4a65c_add_7a177_46 rfl rfl ?_
    refine g_iload_n C 3 dJx4a65c_add_7a177_47 rfl rfl ?_
    refine g_isub C dJx4a65c_add_7a177_48 ?_
    rw [pk_sub hi, nI_1]
    refine g_copy C hk.1 hk.2 hk.1 hk.2 (nI_pos (by omega)) (nI_pos (by omega)) (nI_pos (by omega)) (by rw [nI_clamp (by omega), nI_clamp (by omega)]; omega) (by rw [nI_clamp (by omega), nI_clamp (by omega)]; omega) (fun j hj v hv => ?_) wm_Jx4a65c_112 ⟨by decide, Nat.le_of_ble_eq_true rfl⟩ dJx4a65c_add_7a177_49 ?_
    · rw [o] at hv; exact hee v (List.mem_of_getElem? hv)
    rw [nI_clamp (by omega), nI_clamp (by omega), nI_clamp (by omega)]
    refine g_aload C 0 dJx4a65c_add_7a177_52 rfl ?_
    refine g_iload_n C 3 dJx4a65c_add_7a177_54 rfl rfl ?_
    refine g_aload_n C 4 dJx4a65c_add_7a177_55 rfl rfl ?_
    refine g_aastE C hk.1 hk.2 (vp_in_nI (Nat.lt_of_le_of_lt hi n1) (Nat.lt_of_le_of_lt n3 (by decide))) hxx dJx4a65c_add_7a177_56 ?_
    rw [nI_clamp (by omega)]
    refine g_aload_n C 2 dJx4a65c_add_7a177_57 rfl rfl ?_
    refine g_iload_n C 1 dJx4a65c_add_7a177_58 rfl rfl ?_
    refine g_iconst C 1 dJx4a65c_add_7a177_59 (by decide) ?_
    refine g_iadd C dJx4a65c_add_7a177_60 ?_
    rw [nI_1]
    refine g_put (ty := .int) (S2 := (((S2.rO q (va_cpy (S2.O q) (S2.O q) i (i + 1) (vs.length - i))).sO q i (some x)).sI 17 a (nI (vs.length + 1)))) C 2 h2.1.1 (pF_5 h2.1.2) rfl (by decide) in_Jx4a65c tyJx4a65c_ok nmJx4a65c lk_Jx4a65c_48 rfl rfl (by decide +kernel) rfl rfl (Nat.le_of_ble_eq_true rfl) rfl (pu_I17 (S := ((S2.rO q (va_cpy (S2.O q) (S2.O q) i (i + 1) (vs.length - i))).sO q i (some x))) h2.1.2 (nI (vs.length + 1))) dJx4a65c_add_7a177_61 ?_
    exact g_vret C hQ rfl dJx4a65c_add_7a177_64 (by decide) (by decide) ⟨rfl, rfl, q, al_ins h2 hk ⟨n2, n3⟩ n1 h100 x hi o, ((hfm.trans (r1 := r) (hf.trans (r1 := q) Fr.rO (Or.inr hq)) (Or.inl rfl)).trans (r1 := q) Fr.sO (Or.inr (by rw [← hm] at hq; exact hq))).trans (r1 := r) (Fr.sI (Or.inr rfl)) (Or.inl rfl), Or.inr (by rw [← hm] at hq; exact hq)⟩
set_option maxRecDepth 100000 in
theorem c_addAtE (l : Launch) (E : Ev) (X : va_W) (S : HS) {a r x i : Nat} {vs : List Nat} (h : isAL E S a r vs) (hi : i ≤ vs.length) (h100 : vs.length < 100) (hel : ∀ v ∈ vs, elK S v) (hx : elK S x) (hr0 : r = E.sa 0) (hv0 : vs = []) (hF : Ful E S r vs) : Ctr l yJx4a65c_add_7a177 (Cond.code yJx4a65c_add_7a177 cJx4a65c_add_7a177 5 none) 5 1 150 E [.ref a, .int (nI i), .ref x] X S (Lst none E X S a r (vs.take i ++ x :: vs.drop i)) := by
  refine Ctr.ofG (by decide) [(0, .ref a), (1, .int (nI i)), (2, .ref x)] rfl (Nat.le_of_ble_eq_true rfl) ?_
  intro p e s m args below meth c A Q C hQ
  refine g_aload_n C 0 dJx4a65c_add_7a177_0 rfl rfl ?_
  refine g_iload_n C 1 dJx4a65c_add_7a177_1 rfl rfl ?_
  refine g_callV C [.int (nI i)] [] (c_rcfa l E X S h hi h100) (recv_at h.1.1 (pF_5 h.1.2)) rfl cm_Jx4a65c_rangeCheckForAdd_d00df wv_Jx4a65c_135 ds_Jx4a65c_rangeCheckForAdd_d00df rfl rfl (Nat.le_of_ble_eq_true rfl) (by decide) (by decide) dJx4a65c_add_7a177_2 ?_
  rintro v X2 S2 ⟨rfl, rfl, rfl⟩
  refine g_aload_n C 0 dJx4a65c_add_7a177_5 rfl rfl ?_
  refine g_dup C dJx4a65c_add_7a177_6 rfl ?_
  refine g_getM C 0 h.1.1 (pF_5 h.1.2) rfl (by decide) in_Jx4a65c lk_Jx4a65c_63 w_sf rfl dJx4a65c_add_7a177_7 ?_
  refine g_iconst C 1 dJx4a65c_add_7a177_10 (by decide) ?_
  refine g_iadd C dJx4a65c_add_7a177_11 ?_
  refine g_putM (ty := .int) (S2 := (S.sI 16 a ((S.I 16 a) + 1))) C 0 h.1.1 (pF_5 h.1.2) rfl (by decide) in_Jx4a65c tyJx4a65c_ok nmJx4a65c lk_Jx4a65c_63 w_sf rfl (by decide +kernel) rfl rfl (Nat.le_of_ble_eq_true rfl) rfl (pu_I16 (S := S) h.1.2 ((S.I 16 a) + 1)) dJx4a65c_add_7a177_12 ?_
  generalize hm : S.sI 16 a (S.I 16 a + 1) = S1
  have hz : isAL E S1 a r vs := by rw [← hm]; exact al_mod h
  have hfm : Fr S S1 a r := by rw [← hm]; exact Fr.sI (Or.inl rfl)
  refine g_aload_n C 0 dJx4a65c_add_7a177_15 rfl rfl ?_
  refine g_get (v := .int (nI vs.length)) C 2 hz.1.1 (pF_5 hz.1.2) rfl (by decide) in_Jx4a65c lk_Jx4a65c_48 rfl (congrArg (fun z => some (Value.int z)) hz.2.2.1) dJx4a65c_add_7a177_16 ?_
  refine g_dup C dJx4a65c_add_7a177_19 rfl ?_
  refine g_istore_n C [(3, .int (nI vs.length)), (0, .ref a), (1, .int (nI i)), (2, .ref x)] dJx4a65c_add_7a177_20 rfl (by decide) rfl ?_
  refine g_aload_n C 1 dJx4a65c_add_7a177_21 rfl rfl ?_
  refine g_get (v := .ref (E.sa 0)) C 1 hz.1.1 (pF_5 hz.1.2) rfl (by decide) in_Jx4a65c lk_Jx4a65c_9 rfl (congrArg (fun z => some (va_rf z)) (hz.2.1.trans (congrArg some hr0))) dJx4a65c_add_7a177_22 ?_
  refine g_dup C dJx4a65c_add_7a177_25 rfl ?_
  refine g_astore C [(4, .ref (E.sa 0)), (3, .int (nI vs.length)), (0, .ref a), (1, .int (nI i)), (2, .ref x)] dJx4a65c_add_7a177_26 (by decide) rfl ?_
  refine g_elen C dJx4a65c_add_7a177_28 ?_
  refine g_icmp_ne C 38 dJx4a65c_add_7a177_29 (by decide) (fun h29 => ?_) (fun h29 => ?_)
  · exact absurd (by rw [hv0]; rfl) h29
  · refine g_aload_n C 2 dJx4a65c_add_7a177_32 rfl rfl ?_
    refine g_callV C [] [] (c_grow0 l E X S1 hz (by rw [← hm]; exact hF) h100 (fun v hv => hfm.el (hel v hv))) (recv_at hz.1.1 (pF_5 hz.1.2)) rfl cm_Jx4a65c_grow_d5877 wv_Jx4a65c_129 ds_Jx4a65c_grow_d5877 rfl rfl (Nat.le_of_ble_eq_true rfl) (by decide) (by decide) dJx4a65c_add_7a177_33 ?_
    rintro v X2 S2 ⟨rfl, q, rfl, hq, h2, hk, n1, n2, n3, hf⟩
    have hxx : elK S2 x := hf.el (hfm.el hx)
    have hee : ∀ v ∈ vs, elK S2 v := fun v hv => hf.el (hfm.el (hel v hv))
    refine g_know C (fun kn1 _ kn3 => ?_)
    have o : ∀ j, S2.O q j = vs[j]? := by have g := h2.rows (Or.inl (fun e => kn3 (e ▸ kn1 _ hk.1))); exact rows_q g.2.2.2.2.1 g.2.2.2.2.2
    refine g_astore C [(4, .ref q), (3, .int (nI vs.length)), (0, .ref a), (1, .int (nI i)), (2, .ref x)] dJx4a65c_add_7a177_36 (by decide) rfl ?_
    refine g_aload C 0 dJx4a65c_add_7a177_38 rfl ?_
    refine g_iload_n C 3 dJx4a65c_add_7a177_40 rfl rfl ?_
    refine g_aload C 0 dJx4a65c_add_7a177_41 rfl ?_
    refine g_iload_n C 3 dJx4a65c_add_7a177_43 rfl rfl ?_
    refine g_iconst C 1 dJx4a65c_add_7a177_44 (by decide) ?_
    refine g_iadd C dJx4a65c_add_7a177_45 ?_
    refine g_iload_n C 1 dJx4a65c_add_7a177_46 rfl rfl ?_
    refine g_iload_n C 3 dJx4a65c_add_7a177_47 rfl rfl ?_
    refine g_isub C dJx4a65c_add_7a177_48 ?_
    rw [pk_sub hi, nI_1]
    refine g_copy C hk.1 hk.2 hk.1 hk.2 (nI_pos (by omega)) (nI_pos (by omega)) (nI_pos (by omega)) (by rw [nI_clamp (by omega), nI_clamp (by omega)]; omega) (by rw [nI_clamp (by omega), nI_clamp (by omega)]; omega) (fun j hj v hv => ?_) wm_Jx4a65c_112 ⟨by decide, Nat.le_of_ble_eq_true rfl⟩ dJx4a65c_add_7a177_49 ?_
    · rw [o] at hv; exact hee v (List.mem_of_getElem? hv)
    rw [nI_clamp (by omega), nI_clamp (by omega), nI_clamp (by omega)]
    refine g_aload C 0 dJx4a65c_add_7a177_52 rfl ?_
    refine g_iload_n C 3 dJx4a65c_add_7a177_54 rfl rfl ?_
    refine g_aload_n C 4 dJx4a65c_add_7a177_55 rfl rfl ?_
    refine g_aastE C hk.1 hk.2 (vp_in_nI (Nat.lt_of_le_of_lt hi n1) (Nat.lt_of_le_of_lt n3 (by decide))) hxx dJx4a65c_add_7a177_56 ?_
    rw [nI_clamp (by omega)]
    refine g_aload_n C 2 dJx4a65c_add_7a177_57 rfl rfl ?_
    refine g_iload_n C 1 dJx4a65c_add_7a177_58 rfl rfl ?_
    refine g_iconst C 1 dJx4a65c_add_7a177_59 (by decide) ?_
    refine g_iadd C dJx4a65c_add_7a177_60 ?_
    rw [nI_1]
    refine g_put (ty := .int) (S2 := (((S2.rO q (va_cpy (S2.O q) (S2.O q) i (i + 1) (vs.length - i))).sO q i (some x)).sI 17 a (nI (vs.length + 1)))) C 2 h2.1.1 (pF_5 h2.1.2) rfl (by decide) in_Jx4a65c tyJx4a65c_ok nmJx4a65c lk_Jx4a65c_48 rfl rfl (by decide +kernel) rfl rfl (Nat.le_of_ble_eq_true rfl) rfl (pu_I17 (S := ((S2.rO q (va_cpy (S2.O q) (S2.O q) i (i + 1) (vs.length - i))).sO q i (some x))) h2.1.2 (nI (vs.length + 1))) dJx4a65c_add_7a177_61 ?_
    exact g_vret C hQ rfl dJx4a65c_add_7a177_64 (by decide) (by decide) ⟨rfl, rfl, q, al_ins h2 hk ⟨n2, n3⟩ n1 h100 x hi o, ((hfm.trans (r1 := r) (hf.trans (r1 := q) Fr.rO (Or.inr hq)) (Or.inl rfl)).trans (r1 := q) Fr.sO (Or.inr (by rw [← hm] at hq; exact hq))).trans (r1 := r) (Fr.sI (Or.inr rfl)) (Or.inl rfl), Or.inr (by rw [← hm] at hq; exact hq)⟩
theorem c_addAt (l : Launch) (E : Ev) (X : va_W) (S : HS) {a r x i : Nat} {vs : List Nat} (h : isAL E S a r vs) (hi : i ≤ vs.length) (h100 : vs.length < 100) (hel : ∀ v ∈ vs, elK S v) (hx : elK S x) : Ctr l yJx4a65c_add_7a177 (Cond.code yJx4a65c_add_7a177 cJx4a65c_add_7a177 5 none) 5 1 150 E [.ref a, .int (nI i), .ref x] X S (Lst none E X S a r (vs.take i ++ x :: vs.drop i)) := by
  rcases h.room with hF | ⟨g1, g2, g3, g4, g5, g6⟩
  · rcases id hF with ⟨g1, g2⟩ | ⟨g1, g2, g3⟩
    · exact c_addAtE l E X S h hi h100 hel hx g1 g2 hF
    · exact c_addAtF l E X S h hi h100 hel hx g1 g2 hF
  · exact c_addAtR l E X S h hi h100 hel hx g1 g2 ⟨g3, g4⟩ g5 g6
