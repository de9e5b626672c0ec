/-- a new row q of m places with the first n of r; nothing that was there has changed -/
def Cpy (X : va_W) (S : HS) (r n m : Nat) : Option Value → va_W → HS → Prop := fun v X2 S2 => X = X2 ∧ ∃ q, some (.ref q) = v ∧ q ∉ S.L ∧ isK S2 7 q ∧ S2.N q = m ∧ (∀ i, i < n → S2.O q i = S.O r i) ∧ (∀ i, n ≤ i → S2.O q i = none) ∧ ∀ l9 r9, Fr S S2 l9 r9
theorem cpy_post {X : va_W} {S : HS} {r n m q : Nat} (hq : q ∉ S.L) (hr : isK S 7 r) : Cpy X S r n m (some (.ref q)) X ((S.nR q 7 m).rO q (va_cpy ((S.nR q 7 m).O r) ((S.nR q 7 m).O q) 0 0 n)) := by
  have hne : r ≠ q := fun e => hq (e ▸ hr.1)
  refine ⟨rfl, q, rfl, hq, ⟨?_, ?_⟩, ?_, fun i hi => ?_, fun i hi => ?_, fun l9 r9 => Fr.trans (r1 := q) (Fr.nR hq) Fr.rO (Or.inr hq)⟩
  · show q ∈ S.L ++ [q]; simp
  · show va_up S.K q 7 q = 7; exact va_up_self _ _ _
  · show va_up S.N q m q = m; exact va_up_self _ _ _
  · show va_up _ q (va_cpy (va_up S.O q (fun _ => none) r) _ 0 0 n) q i = S.O r i
    rw [va_up_self, pk_cpy_in (Nat.zero_le _) (by omega), va_up_ne _ _ hne, Nat.zero_add, Nat.sub_zero]
  · show va_up _ q (va_cpy _ (va_up S.O q (fun _ => none) q) 0 0 n) q i = none
    rw [va_up_self, pk_cpy_out (Or.inr (by omega)), va_up_self]
set_option maxRecDepth 100000 in
theorem c_copyOf3 (l : Launch) (E : Ev) (X : va_W) (S : HS) {r n mm : Nat} (hr : isK S 7 r) (hn : S.N r = n) (hnm : n ≤ mm) (hm : mm ≤ 150) (hel : ∀ i, i < n → ∀ v, S.O r i = some v → elK S v) : Ctr l yJ7_copyOf_6403c (Cond.code yJ7_copyOf_6403c cJ7_copyOf_6403c 4 (some (.array (.object "java/lang/Object")))) 1 1 150 E [.ref r, .int (nI mm), .ref (E.sa 1)] X S (Cpy X S r n mm) := by
  refine Ctr.ofG (by decide) [(0, .ref r), (1, .int (nI mm)), (2, .ref (E.sa 1))] rfl (Nat.le_of_ble_eq_true rfl) ?_
  intro p e s m args below meth c A Q C hQ
  refine g_aload_n C 2 dJ7_copyOf_6403c_0 rfl rfl ?_
  refine g_mirror C kl_J7_110 dJ7_copyOf_6403c_1 ?_
  refine g_acmp_ne (rx := some (E.sa 1)) (ry := some (E.sa 1)) C 13 dJ7_copyOf_6403c_3 (by decide) (fun h3 => ?_) (fun h3 => ?_)
  · exact absurd rfl h3
  · refine g_iload_n C 1 dJ7_copyOf_6403c_6 rfl rfl ?_
    refine g_newO C mm kl_J7_2 (nI_pos (by omega)) (nI_clamp (by omega)) (by omega) (by decide) (by show 0 + mm ≤ 150; omega) dJ7_copyOf_6403c_7 (fun q hq => ?_)
    refine g_widen 1 150 (by decide) (by show 0 + mm ≤ 150; omega) ?_
    have hr2 : isK (S.nR q 7 mm) 7 r := (Fr.nR (l := 0) (r := 0) hq).K hr
    have hq2 : isK (S.nR q 7 mm) 7 q := ⟨by show q ∈ S.L ++ [q]; simp, va_up_self _ _ _⟩
    have hne : r ≠ q := fun e => hq (e ▸ hr.1)
    have hn2 : (S.nR q 7 mm).N r = n := by show va_up S.N q mm r = n; rw [va_up_ne _ _ hne]; exact hn
    have hnq : (S.nR q 7 mm).N q = mm := va_up_self _ _ _
    refine g_goto C 24 dJ7_copyOf_6403c_10 (by decide) ?_
    refine g_astore_n C [(3, .ref q), (0, .ref r), (1, .int (nI mm)), (2, .ref (E.sa 1))] dJ7_copyOf_6403c_24 rfl (by decide) rfl ?_
    refine g_aload_n C 1 dJ7_copyOf_6403c_25 rfl rfl ?_
    refine g_iconst C 0 dJ7_copyOf_6403c_26 (by decide) ?_
    refine g_aload_n C 0 dJ7_copyOf_6403c_27 rfl rfl ?_
    refine g_iconst C 0 dJ7_copyOf_6403c_28 (by decide) ?_
    refine g_aload_n C 1 dJ7_copyOf_6403c_29 rfl rfl ?_
    refine g_alen (t0 := 2) C (nI (n)) hr2.1 (pF_7 hr2.2) rfl (by show nI ((S.nR q 7 mm).N r) = nI n; rw [hn2]) dJ7_copyOf_6403c_30 ?_
    refine g_iload_n C 2 dJ7_copyOf_6403c_31 rfl rfl ?_
    refine g_min C wm_J7_304 ⟨by decide, Nat.le_of_ble_eq_true rfl⟩ (by decide) dJ7_copyOf_6403c_32 ?_
    rw [if_neg (nI_nlt hnm (by omega))]
    refine g_copy C hr2.1 hr2.2 hq2.1 hq2.2 (by decide) (by decide) (nI_pos (by omega)) (by rw [nI_clamp (by omega), sb_cl0, hn2]; omega) (by rw [nI_clamp (by omega), sb_cl0, hnq]; omega) (fun i hi v hv => ?_) wm_J7_150 ⟨by decide, Nat.le_of_ble_eq_true rfl⟩ dJ7_copyOf_6403c_35 ?_
    · rw [nI_clamp (by omega)] at hi
      rw [sb_cl0, Nat.zero_add] at hv
      have hv2 : va_up S.O q (fun _ => none) r i = some v := hv
      rw [va_up_ne _ _ hne] at hv2
      exact (Fr.nR (l := 0) (r := 0) hq).el (hel i hi v hv2)
    rw [nI_clamp (by omega), sb_cl0]
    refine g_aload_n C 0 dJ7_copyOf_6403c_38 rfl rfl ?_
    exact g_aret C hQ rfl (by first | exact Or.inl ⟨_, rfl⟩ | exact Or.inr ⟨_, rfl⟩) (Or.inr ⟨_, rfl⟩) dJ7_copyOf_6403c_39 (by decide) (by decide) (cpy_post hq hr)
set_option maxRecDepth 100000 in
theorem c_copyOf2 (l : Launch) (E : Ev) (X : va_W) (S : HS) {r n mm : Nat} (hr : isK S 7 r) (hn : S.N r = n) (hnm : n ≤ mm) (hm : mm ≤ 150) (hel : ∀ i, i < n → ∀ v, S.O r i = some v → elK S v) : Ctr l yJ7_copyOf_1904c (Cond.code yJ7_copyOf_1904c cJ7_copyOf_1904c 2 (some (.array (.object "java/lang/Object")))) 2 1 150 E [.ref r, .int (nI mm)] X S (Cpy X S r n mm) := by
  refine Ctr.ofG (by decide) [(0, .ref r), (1, .int (nI mm))] rfl (Nat.le_of_ble_eq_true rfl) ?_
  intro p e s m args below meth c A Q C hQ
  refine g_aload_n C 0 dJ7_copyOf_1904c_0 rfl rfl ?_
  refine g_iload_n C 1 dJ7_copyOf_1904c_1 rfl rfl ?_
  refine g_aload_n C 0 dJ7_copyOf_1904c_2 rfl rfl ?_
  refine g_getC C hr.1 hr.2 wm_J7_86 ⟨by decide, Nat.le_of_ble_eq_true rfl⟩ dJ7_copyOf_1904c_3 ?_
  refine g_callS C [.ref r, .int (nI mm), .ref (E.sa 1)] [] (c_copyOf3 l E X S hr hn hnm hm hel) cm_J7_copyOf_6403c wst_J7_300 dt_J7_copyOf_6403c rfl rfl (Nat.le_of_ble_eq_true rfl) (by decide) (by decide) dJ7_copyOf_1904c_6 ?_
  rintro v X2 S2 ⟨rfl, q, rfl, hq, hp⟩
  exact g_aret C hQ rfl (by first | exact Or.inl ⟨_, rfl⟩ | exact Or.inr ⟨_, rfl⟩) (Or.inr ⟨_, rfl⟩) dJ7_copyOf_1904c_9 (by decide) (by decide) ⟨rfl, q, rfl, hq, hp⟩
/-- the list has a new row with room -/
def Grw (E : Ev) (X : va_W) (S : HS) (a r : Nat) (vs : List Nat) : Option Value → va_W → HS → Prop := fun v X2 S2 => X = X2 ∧ ∃ q, some (.ref q) = v ∧ q ∉ S.L ∧ isAL E S2 a q vs ∧ isK S2 7 q ∧ vs.length < S2.N q ∧ 10 ≤ S2.N q ∧ S2.N q ≤ 150 ∧ Fr S S2 a r
theorem grw_empty {E : Ev} {X : va_W} {S : HS} {a r q : Nat} (h : isAL E S a r []) (hq : q ∉ S.L) : Grw E X S a r [] (some (.ref q)) X ((S.nR q 7 10).sP 10 a (some q)) := by
  have f1 : Fr S (S.nR q 7 10) a r := Fr.nR hq
  have hk : isK ((S.nR q 7 10).sP 10 a (some q)) 7 q := ⟨by show q ∈ S.L ++ [q]; simp, va_up_self _ _ _⟩
  have hN : ((S.nR q 7 10).sP 10 a (some q)).N q = 10 := va_up_self _ _ _
  obtain ⟨h1, h2, h3, h4, h5⟩ := h
  refine ⟨rfl, q, rfl, hq, ⟨f1.K h1, u2_self, h3, h4, Or.inr ⟨hk, Nat.zero_le _, by rw [hN]; omega, by rw [hN]; omega, fun i hi => absurd hi (Nat.not_lt_zero _), fun i _ => ?_⟩⟩, hk, by rw [hN]; decide, by rw [hN]; omega, by rw [hN]; omega, f1.trans (r1 := r) Fr.sP (Or.inl rfl)⟩
  show va_up S.O q (fun _ => none) q i = none
  rw [va_up_self]
theorem grw_full {E : Ev} {X : va_W} {S S2 : HS} {a r q m : Nat} {vs : List Nat} (h : isAL E S a r vs) (hr : isK S 7 r) (hN : S.N r = vs.length) (hm : vs.length < m) (hm2 : m ≤ 150) (h10 : 10 ≤ m) (hq : q ∉ S.L) (hk : isK S2 7 q) (hNq : S2.N q = m) (o1 : ∀ i, i < vs.length → S2.O q i = S.O r i) (o2 : ∀ i, vs.length ≤ i → S2.O q i = none) (hf : ∀ l9 r9, Fr S S2 l9 r9) : Grw E X S a r vs (some (.ref q)) X (S2.sP 10 a (some q)) := by
  have f1 : Fr S S2 a r := hf a r
  have hk2 : isK (S2.sP 10 a (some q)) 7 q := hk
  have hN2 : (S2.sP 10 a (some q)).N q = m := hNq
  have hreal : ∀ i (hi : i < vs.length), S.O r i = some vs[i] := fun i hi => (h.real hi).2.2.2
  obtain ⟨h1, h2, h3, h4, h5⟩ := h
  refine ⟨rfl, q, rfl, hq, ⟨f1.K h1, u2_self, ?_, h4, Or.inr ⟨hk2, by rw [hN2]; omega, by rw [hN2]; omega, by rw [hN2]; omega, fun i hi => (o1 i hi).trans (hreal i hi), fun i hi => o2 i hi⟩⟩, hk2, by rw [hN2]; omega, by rw [hN2]; omega, by rw [hN2]; omega, f1.trans (r1 := r) Fr.sP (Or.inl rfl)⟩
  show S2.I 17 a = _
  rw [(hf (a + 1) r).2.2.1 17 a h1.1 (Or.inl (by omega))]
  exact h3
set_option maxRecDepth 100000 in
theorem c_grow1E (l : Launch) (E : Ev) (X : va_W) (S : HS) {a : Nat} (h : isAL E S a (E.sa 0) []) : Ctr l yJx4a65c_grow_92f84 (Cond.code yJx4a65c_grow_92f84 cJx4a65c_grow_92f84 4 (some (.array (.object "java/lang/Object")))) 3 1 150 E [.ref a, .int (nI 1)] X S (Grw E X S a (E.sa 0) []) := by
  refine Ctr.ofG (by decide) [(0, .ref a), (1, .int (nI 1))] rfl (Nat.le_of_ble_eq_true rfl) ?_
  intro p e s m args below meth c A Q C hQ
  refine g_aload_n C 0 dJx4a65c_grow_92f84_0 rfl rfl ?_
  refine g_get (v := .ref (E.sa 0)) C 1 h.1.1 (pF_5 h.1.2) rfl (by decide) in_Jx4a65c lk_Jx4a65c_9 rfl (congrArg (fun z => some (va_rf z)) h.2.1) dJx4a65c_grow_92f84_1 ?_
  refine g_elen C dJx4a65c_grow_92f84_4 ?_
  refine g_istore_n C [(2, .int 0), (0, .ref a), (1, .int (nI 1))] dJx4a65c_grow_92f84_5 rfl (by decide) rfl ?_
  refine g_iload_n C 0 dJx4a65c_grow_92f84_6 rfl rfl ?_
  refine g_if_gt C 20 dJx4a65c_grow_92f84_7 (by decide) (fun h7 => ?_) (fun h7 => ?_)
  · first | exact absurd h7 (by decide) | exact absurd rfl h17
  · refine g_aload_n C 1 dJx4a65c_grow_92f84_10 rfl rfl ?_
    refine g_get (v := .ref (E.sa 0)) C 1 h.1.1 (pF_5 h.1.2) rfl (by decide) in_Jx4a65c lk_Jx4a65c_9 rfl (congrArg (fun z => some (va_rf z)) h.2.1) dJx4a65c_grow_92f84_11 ?_
    refine g_empty C lk_Jx4a65c_39 dJx4a65c_grow_92f84_14 ?_
    refine g_acmp_eq (rx := some (E.sa 0)) (ry := some (E.sa 0)) C 45 dJx4a65c_grow_92f84_17 (by decide) (fun h17 => ?_) (fun h17 => ?_)
    · refine g_aload_n C 1 dJx4a65c_grow_92f84_45 rfl rfl ?_
      refine g_bipush C 10 dJx4a65c_grow_92f84_46 (by decide) ?_
      refine g_iload_n C 2 dJx4a65c_grow_92f84_48 rfl rfl ?_
      refine g_max C wm_Jx4a65c_79 ⟨by decide, Nat.le_of_ble_eq_true rfl⟩ (by decide) dJx4a65c_grow_92f84_49 ?_
      rw [if_neg (by decide)]
      refine g_newO C 10 kl_Jx4a65c_7 (by decide) (by decide) (by decide) (by decide) (by decide) dJx4a65c_grow_92f84_52 (fun q hq => ?_)
      have h2 : isK (S.nR q 7 10) 5 a := (Fr.nR (l := 0) (r := 0) hq).K h.1
      refine g_dup_x1 C dJx4a65c_grow_92f84_55 rfl rfl ?_
      refine g_put (ty := .array (.object "java/lang/Object")) (S2 := ((S.nR q 7 10).sP 10 a (some q))) C 1 h2.1 (pF_5 h2.2) rfl (by decide) in_Jx4a65c tyJx4a65c_ok nmJx4a65c lk_Jx4a65c_9 rfl rfl (by decide +kernel) rfl rfl (Nat.le_of_ble_eq_true rfl) rfl (pu_P10 h2.2 (some q)) dJx4a65c_grow_92f84_56 ?_
      exact g_aret C hQ rfl (by first | exact Or.inl ⟨_, rfl⟩ | exact Or.inr ⟨_, rfl⟩) (Or.inr ⟨_, rfl⟩) dJx4a65c_grow_92f84_59 (by decide) (by decide) (grw_empty h hq)
    · first | exact absurd h7 (by decide) | exact absurd rfl h17
set_option maxRecDepth 100000 in
theorem c_grow1F (l : Launch) (E : Ev) (X : va_W) (S : HS) {a r : Nat} {vs : List Nat} (h : isAL E S a r vs) (hr : isK S 7 r) (hN : S.N r = vs.length) (h10 : 10 ≤ vs.length) (h100 : vs.length < 100) (hel : ∀ v ∈ vs, elK S v) : Ctr l yJx4a65c_grow_92f84 (Cond.code yJx4a65c_grow_92f84 cJx4a65c_grow_92f84 4 (some (.array (.object "java/lang/Object")))) 3 1 150 E [.ref a, .int (nI (vs.length + 1))] X S (Grw E X S a r vs) := by
  refine Ctr.ofG (by decide) [(0, .ref a), (1, .int (nI (vs.length + 1)))] rfl (Nat.le_of_ble_eq_true rfl) ?_
  intro p e s m args below meth c A Q C hQ
  refine g_aload_n C 0 dJx4a65c_grow_92f84_0 rfl rfl ?_
  refine g_get (v := .ref r) C 1 h.1.1 (pF_5 h.1.2) rfl (by decide) in_Jx4a65c lk_Jx4a65c_9 rfl (congrArg (fun z => some (va_rf z)) h.2.1) dJx4a65c_grow_92f84_1 ?_
  refine g_alen (t0 := 2) C (nI (vs.length)) hr.1 (pF_7 hr.2) rfl (by show nI (S.N r) = _; rw [hN]) dJx4a65c_grow_92f84_4 ?_
  refine g_istore_n C [(2, .int (nI (vs.length))), (0, .ref a), (1, .int (nI (vs.length + 1)))] dJx4a65c_grow_92f84_5 rfl (by decide) rfl ?_
  refine g_iload_n C 0 dJx4a65c_grow_92f84_6 rfl rfl ?_
  refine g_if_gt C 20 dJx4a65c_grow_92f84_7 (by decide) (fun h7 => ?_) (fun h7 => ?_)
  · refine g_iload_n C 0 dJx4a65c_grow_92f84_20 rfl rfl ?_
    refine g_iload_n C 2 dJx4a65c_grow_92f84_21 rfl rfl ?_
    refine g_iload_n C 0 dJx4a65c_grow_92f84_22 rfl rfl ?_
    refine g_isub C dJx4a65c_grow_92f84_23 ?_
    rw [pk_sub (by omega), Nat.add_sub_cancel_left]
    refine g_iload_n C 0 dJx4a65c_grow_92f84_24 rfl rfl ?_
    refine g_iconst C 1 dJx4a65c_grow_92f84_25 (by decide) ?_
    refine g_ishr C dJx4a65c_grow_92f84_26 ?_
    rw [show nI vs.length >>> ((1 : Int32) &&& 31) = nI (vs.length / 2) by have k := pk_shrN (n := vs.length) (by omega) ((1 : Int32) &&& 31) 1 (by decide); rw [Nat.pow_one] at k; exact k]
    refine g_callS C [.int (nI (vs.length)), .int (nI 1), .int (nI (vs.length / 2))] [] (c_newLength l E X S (n := vs.length) (by omega) (by omega)) cm_J8_newLength_cabcc wst_Jx4a65c_73 dt_J8_newLength_cabcc rfl rfl (Nat.le_of_ble_eq_true rfl) (by decide) (by decide) dJx4a65c_grow_92f84_27 ?_
    rintro v X2 S2 ⟨rfl, rfl, rfl⟩
    refine g_istore_n C [(3, .int (nI (vs.length + vs.length / 2))), (2, .int (nI (vs.length))), (0, .ref a), (1, .int (nI (vs.length + 1)))] dJx4a65c_grow_92f84_30 rfl (by decide) rfl ?_
    refine g_aload_n C 2 dJx4a65c_grow_92f84_31 rfl rfl ?_
    refine g_aload_n C 2 dJx4a65c_grow_92f84_32 rfl rfl ?_
    refine g_get (v := .ref r) C 1 h.1.1 (pF_5 h.1.2) rfl (by decide) in_Jx4a65c lk_Jx4a65c_9 rfl (congrArg (fun z => some (va_rf z)) h.2.1) dJx4a65c_grow_92f84_33 ?_
    refine g_iload_n C 0 dJx4a65c_grow_92f84_36 rfl rfl ?_
    refine g_callS C [.ref r, .int (nI (vs.length + vs.length / 2))] [.ref a] (c_copyOf2 l E X S (mm := vs.length + vs.length / 2) hr hN (by omega) (by omega) (fun i hi v hv => by rw [(h.real hi).2.2.2] at hv; cases hv; exact hel _ (List.getElem_mem _))) cm_J7_copyOf_1904c wst_Jx4a65c_66 dt_J7_copyOf_1904c rfl rfl (Nat.le_of_ble_eq_true rfl) (by decide) (by decide) dJx4a65c_grow_92f84_37 ?_
    rintro v X2 S2 ⟨rfl, q, rfl, hq, hk, hNq, o1, o2, hf⟩
    have h2 : isK S2 5 a := (hf 0 0).K h.1
    refine g_dup_x1 C dJx4a65c_grow_92f84_40 rfl rfl ?_
    refine g_put (ty := .array (.object "java/lang/Object")) (S2 := (S2.sP 10 a (some q))) C 1 h2.1 (pF_5 h2.2) rfl (by decide) in_Jx4a65c tyJx4a65c_ok nmJx4a65c lk_Jx4a65c_9 rfl rfl (by decide +kernel) rfl rfl (Nat.le_of_ble_eq_true rfl) rfl (pu_P10 h2.2 (some q)) dJx4a65c_grow_92f84_41 ?_
    exact g_aret C hQ rfl (by first | exact Or.inl ⟨_, rfl⟩ | exact Or.inr ⟨_, rfl⟩) (Or.inr ⟨_, rfl⟩) dJx4a65c_grow_92f84_44 (by decide) (by decide) (grw_full h hr hN (by omega) (by omega) (by omega) hq hk hNq o1 o2 hf)
  · exact absurd (show nI 0 < nI vs.length from nI_lt (by omega) (by omega)) (Int32.not_lt.mpr (Int32.not_lt.mp h7))
/-- the row is full: it is the empty one, or all its places are taken -/
def Ful (E : Ev) (S : HS) (r : Nat) (vs : List Nat) : Prop := (r = E.sa 0 ∧ vs = []) ∨ (isK S 7 r ∧ S.N r = vs.length ∧ 10 ≤ vs.length)
theorem c_grow1 (l : Launch) (E : Ev) (X : va_W) (S : HS) {a r : Nat} {vs : List Nat} (h : isAL E S a r vs) (hF : Ful E S r vs) (h100 : vs.length < 100) (hel : ∀ v ∈ vs, elK S v) : Ctr l yJx4a65c_grow_92f84 (Cond.code yJx4a65c_grow_92f84 cJx4a65c_grow_92f84 4 (some (.array (.object "java/lang/Object")))) 3 1 150 E [.ref a, .int (nI (vs.length + 1))] X S (Grw E X S a r vs) := by
  rcases hF with ⟨rfl, rfl⟩ | ⟨h1, h2, h3⟩
  · exact c_grow1E l E X S h
  · exact c_grow1F l E X S h h1 h2 h3 h100 hel
set_option maxRecDepth 100000 in
theorem c_grow0 (l : Launch) (E : Ev) (X : va_W) (S : HS) {a r : Nat} {vs : List Nat} (h : isAL E S a r vs) (hF : Ful E S r vs) (h100 : vs.length < 100) (hel : ∀ v ∈ vs, elK S v) : Ctr l yJx4a65c_grow_d5877 (Cond.code yJx4a65c_grow_d5877 cJx4a65c_grow_d5877 1 (some (.array (.object "java/lang/Object")))) 4 1 150 E [.ref a] X S (Grw E X S a r vs) := by
  refine Ctr.ofG (by decide) [(0, .ref a)] rfl (Nat.le_of_ble_eq_true rfl) ?_
  intro p e s m args below meth c A Q C hQ
  refine g_aload_n C 0 dJx4a65c_grow_d5877_0 rfl rfl ?_
  refine g_aload_n C 0 dJx4a65c_grow_d5877_1 rfl rfl ?_
  refine g_get (v := .int (nI vs.length)) C 2 h.1.1 (pF_5 h.1.2) rfl (by decide) in_Jx4a65c lk_Jx4a65c_48 rfl (congrArg (fun z => some (Value.int z)) h.2.2.1) dJx4a65c_grow_d5877_2 ?_
  refine g_iconst C 1 dJx4a65c_grow_d5877_5 (by decide) ?_
  refine g_iadd C dJx4a65c_grow_d5877_6 ?_
  rw [nI_1]
  refine g_callV C [.int (nI (vs.length + 1))] [] (c_grow1 l E X S h hF h100 hel) (recv_at h.1.1 (pF_5 h.1.2)) rfl cm_Jx4a65c_grow_92f84 wv_Jx4a65c_69 ds_Jx4a65c_grow_92f84 rfl rfl (Nat.le_of_ble_eq_true rfl) (by decide) (by decide) dJx4a65c_grow_d5877_7 ?_
  rintro v X2 S2 ⟨rfl, q, rfl, hp⟩
  exact g_aret C hQ rfl (by first | exact Or.inl ⟨_, rfl⟩ | exact Or.inr ⟨_, rfl⟩) (Or.inr ⟨_, rfl⟩) dJx4a65c_grow_d5877_10 (by decide) (by decide) ⟨rfl, q, rfl, hp⟩
