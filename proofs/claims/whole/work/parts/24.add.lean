theorem al_mod {E : Ev} {S : HS} {a r : Nat} {vs : List Nat} {v : Int32} (h : isAL E S a r vs) : isAL E (S.sI 16 a v) a r vs := ⟨h.1, h.2.1, (show u2 S.I 16 a v 17 a = nI vs.length by rw [u2_ne1 (by decide)]; exact h.2.2.1), h.2.2.2⟩
theorem al_push {E : Ev} {S : HS} {a r : Nat} {vs : List Nat} (h : isAL E S a r vs) (hr : isK S 7 r) (h1 : 10 ≤ S.N r ∧ S.N r ≤ 150) (hlt : vs.length < S.N r) (h100 : vs.length < 100) (e : Nat) (o1 : ∀ i (hi : i < vs.length), S.O r i = some vs[i]) (o2 : ∀ i, vs.length ≤ i → S.O r i = none) : isAL E ((S.sO r vs.length (some e)).sI 17 a (nI (vs.length + 1))) a r (vs ++ [e]) := by
  have hl : (vs ++ [e]).length = vs.length + 1 := by simp
  refine al_size h hr h1 rfl rfl rfl rfl (by rw [hl]; exact u2_self) (by omega) (by omega) (fun i hi => ?_) (fun i hi => ?_)
  · show u2 S.O r vs.length (some e) r i = _
    by_cases c : i = vs.length
    · subst c; rw [u2_self]; simp
    · rw [u2_ne2 c, o1 i (by omega), List.getElem_append_left (by omega)]
  · show u2 S.O r vs.length (some e) r i = _
    rw [u2_ne2 (by omega)]; exact o2 i (by omega)
theorem isAL.rows {E : Ev} {S : HS} {a r : Nat} {vs : List Nat} (h : isAL E S a r vs) (hr : r ≠ E.sa 0 ∨ vs ≠ []) : isK S 7 r ∧ vs.length ≤ S.N r ∧ 10 ≤ S.N r ∧ S.N r ≤ 150 ∧ (∀ (i : Nat) (h : i < vs.length), S.O r i = some vs[i]) ∧ ∀ i : Nat, vs.length ≤ i → S.O r i = none := by
  rcases h.2.2.2.2 with ⟨g1, g2⟩ | g
  · rcases hr with hr | hr
    · exact absurd g1 hr
    · exact absurd g2 hr
  · exact g
/-- how a list stands: its row is full, or it has room -/
theorem isAL.room {E : Ev} {S : HS} {a r : Nat} {vs : List Nat} (h : isAL E S a r vs) : Ful E S r vs ∨ (isK S 7 r ∧ vs.length < S.N r ∧ 10 ≤ S.N r ∧ S.N r ≤ 150 ∧ (∀ (i : Nat) (h : i < vs.length), S.O r i = some vs[i]) ∧ ∀ i : Nat, vs.length ≤ i → S.O r i = none) := by
  rcases h.2.2.2.2 with g | ⟨g1, g2, g3, g4, g5, g6⟩
  · exact Or.inl (Or.inl g)
  · by_cases c : S.N r = vs.length
    · exact Or.inl (Or.inr ⟨g1, c, by omega⟩)
    · exact Or.inr ⟨g1, by omega, g3, g4, g5, g6⟩
theorem Ful.mod {E : Ev} {S : HS} {a r : Nat} {vs : List Nat} {v : Int32} (h : Ful E S r vs) : Ful E (S.sI 16 a v) r vs := h
set_option maxRecDepth 100000 in
theorem c_add3R (l : Launch) (E : Ev) (X : va_W) (S : HS) {a r x : Nat} {vs : List Nat} (h : isAL E S a r vs) (h100 : vs.length < 100) (hel : ∀ v ∈ vs, elK S v) (hx : elK S x) (hr : isK S 7 r) (hlt : vs.length < S.N r) (h1 : 10 ≤ S.N r ∧ S.N r ≤ 150) (o1 : ∀ i (hi : i < vs.length), S.O r i = some vs[i]) (o2 : ∀ i, vs.length ≤ i → S.O r i = none) : Ctr l yJx4a65c_add_72be8 (Cond.code yJx4a65c_add_72be8 cJx4a65c_add_72be8 4 none) 5 1 150 E [.ref a, .ref x, .ref r, .int (nI vs.length)] X S (Lst none E X S a r (vs ++ [x])) := by
  refine Ctr.ofG (by decide) [(0, .ref a), (1, .ref x), (2, .ref r), (3, .int (nI vs.length))] rfl (Nat.le_of_ble_eq_true rfl) ?_
  intro p e s m args below meth c A Q C hQ
  refine g_iload_n C 3 dJx4a65c_add_72be8_0 rfl rfl ?_
  refine g_aload_n C 2 dJx4a65c_add_72be8_1 rfl rfl ?_
  refine g_alen (t0 := 2) C (nI (S.N r)) hr.1 (pF_7 hr.2) rfl rfl dJx4a65c_add_72be8_2 ?_
  refine g_icmp_ne C 11 dJx4a65c_add_72be8_3 (by decide) (fun h3 => ?_) (fun h3 => ?_)
  · refine g_aload_n C 2 dJx4a65c_add_72be8_11 rfl rfl ?_
    refine g_iload_n C 3 dJx4a65c_add_72be8_12 rfl rfl ?_
    refine g_aload_n C 1 dJx4a65c_add_72be8_13 rfl rfl ?_
    refine g_aastE C hr.1 hr.2 (vp_in_nI (by omega) (by omega)) hx dJx4a65c_add_72be8_14 ?_
    rw [nI_clamp (by omega)]
    refine g_aload_n C 0 dJx4a65c_add_72be8_15 rfl rfl ?_
    refine g_iload_n C 3 dJx4a65c_add_72be8_16 rfl rfl ?_
    refine g_iconst C 1 dJx4a65c_add_72be8_17 (by decide) ?_
    refine g_iadd C dJx4a65c_add_72be8_18 ?_
    rw [nI_1]
    refine g_put (ty := .int) (S2 := ((S.sO r vs.length (some x)).sI 17 a (nI (vs.length + 1)))) C 2 h.1.1 (pF_5 h.1.2) rfl (by decide) in_Jx4a65c tyJx4a65c_ok nmJx4a65c lk_Jx4a65c_48 rfl rfl (by decide +kernel) rfl rfl (Nat.le_of_ble_eq_true rfl) rfl (pu_I17 (S := (S.sO r vs.length (some x))) h.1.2 (nI (vs.length + 1))) dJx4a65c_add_72be8_19 ?_
    exact g_vret C hQ rfl dJx4a65c_add_72be8_22 (by decide) (by decide) ⟨rfl, rfl, r, al_push h hr h1 hlt h100 x o1 o2, (Fr.sO).trans (r1 := r) (Fr.sI (Or.inr rfl)) (Or.inl rfl), Or.inl rfl⟩
  · exact absurd ((nI_eq (by omega) (by omega)).mp h3) (by omega)
set_option maxRecDepth 100000 in
theorem c_add3F (l : Launch) (E : Ev) (X : va_W) (S : HS) {a r x : Nat} {vs : List Nat} (h : isAL E S a r vs) (h100 : vs.length < 100) (hel : ∀ v ∈ vs, elK S v) (hx : elK S x) (hr : isK S 7 r) (hN : S.N r = vs.length) (hF : Ful E S r vs) : Ctr l yJx4a65c_add_72be8 (Cond.code yJx4a65c_add_72be8 cJx4a65c_add_72be8 4 none) 5 1 150 E [.ref a, .ref x, .ref r, .int (nI vs.length)] X S (Lst none E X S a r (vs ++ [x])) := by
  refine Ctr.ofG (by decide) [(0, .ref a), (1, .ref x), (2, .ref r), (3, .int (nI vs.length))] rfl (Nat.le_of_ble_eq_true rfl) ?_
  intro p e s m args below meth c A Q C hQ
  refine g_iload_n C 3 dJx4a65c_add_72be8_0 rfl rfl ?_
  refine g_aload_n C 2 dJx4a65c_add_72be8_1 rfl rfl ?_
  refine g_alen (t0 := 2) C (nI (vs.length)) hr.1 (pF_7 hr.2) rfl (by show nI (S.N r) = _; rw [hN]) dJx4a65c_add_72be8_2 ?_
  refine g_icmp_ne C 11 dJx4a65c_add_72be8_3 (by decide) (fun h3 => ?_) (fun h3 => ?_)
  · exact absurd rfl h3
  · refine g_aload_n C 0 dJx4a65c_add_72be8_6 rfl rfl ?_
    refine g_callV C [] [] (c_grow0 l E X S h hF h100 hel) (recv_at h.1.1 (pF_5 h.1.2)) rfl cm_Jx4a65c_grow_d5877 wv_Jx4a65c_129 ds_Jx4a65c_grow_d5877 rfl rfl (Nat.le_of_ble_eq_true rfl) (by decide) (by decide) dJx4a65c_add_72be8_7 ?_
    rintro v X2 S2 ⟨rfl, q, rfl, hq, h2, hk, n1, n2, n3, hf⟩
    refine g_astore_n C [(2, .ref q), (0, .ref a), (1, .ref x), (3, .int (nI vs.length))] dJx4a65c_add_72be8_10 rfl (by decide) rfl ?_
    refine g_aload_n C 0 dJx4a65c_add_72be8_11 rfl rfl ?_
    refine g_iload_n C 3 dJx4a65c_add_72be8_12 rfl rfl ?_
    refine g_aload_n C 2 dJx4a65c_add_72be8_13 rfl rfl ?_
    refine g_aastE C hk.1 hk.2 (vp_in_nI (by omega) (by omega)) (hf.el hx) dJx4a65c_add_72be8_14 ?_
    rw [nI_clamp (by omega)]
    refine g_know C (fun kn1 _ kn3 => ?_)
    have hsa : E.sa 0 ∉ (S2.sO q vs.length (some x)).L := fun z => kn3 (kn1 _ z)
    refine g_aload_n C 1 dJx4a65c_add_72be8_15 rfl rfl ?_
    refine g_iload_n C 3 dJx4a65c_add_72be8_16 rfl rfl ?_
    refine g_iconst C 1 dJx4a65c_add_72be8_17 (by decide) ?_
    refine g_iadd C dJx4a65c_add_72be8_18 ?_
    rw [nI_1]
    refine g_put (ty := .int) (S2 := ((S2.sO q vs.length (some x)).sI 17 a (nI (vs.length + 1)))) C 2 h2.1.1 (pF_5 h2.1.2) rfl (by decide) in_Jx4a65c tyJx4a65c_ok nmJx4a65c lk_Jx4a65c_48 rfl rfl (by decide +kernel) rfl rfl (Nat.le_of_ble_eq_true rfl) rfl (pu_I17 (S := (S2.sO q vs.length (some x))) h2.1.2 (nI (vs.length + 1))) dJx4a65c_add_72be8_19 ?_
    exact g_vret C hQ rfl dJx4a65c_add_72be8_22 (by decide) (by decide) ⟨rfl, rfl, q, (by have g := h2.rows (Or.inl (fun e => hsa (e ▸ hk.1))); exact al_push h2 hk ⟨n2, n3⟩ n1 h100 x g.2.2.2.2.1 g.2.2.2.2.2), (hf.trans (r1 := q) (Fr.sO) (Or.inr hq)).trans (r1 := r) (Fr.sI (Or.inr rfl)) (Or.inl rfl), Or.inr hq⟩
set_option maxRecDepth 100000 in
theorem c_add3E (l : Launch) (E : Ev) (X : va_W) (S : HS) {a r x : Nat} {vs : List Nat} (h : isAL E S a r vs) (h100 : vs.length < 100) (hel : ∀ v ∈ vs, elK S v) (hx : elK S x) (hr0 : r = E.sa 0) (hv0 : vs = []) (hF : Ful E S r vs) : Ctr l yJx4a65c_add_72be8 (Cond.code yJx4a65c_add_72be8 cJx4a65c_add_72be8 4 none) 5 1 150 E [.ref a, .ref x, .ref (E.sa 0), .int (nI vs.length)] X S (Lst none E X S a r (vs ++ [x])) := by
  refine Ctr.ofG (by decide) [(0, .ref a), (1, .ref x), (2, .ref (E.sa 0)), (3, .int (nI vs.length))] rfl (Nat.le_of_ble_eq_true rfl) ?_
  intro p e s m args below meth c A Q C hQ
  refine g_iload_n C 3 dJx4a65c_add_72be8_0 rfl rfl ?_
  refine g_aload_n C 2 dJx4a65c_add_72be8_1 rfl rfl ?_
  refine g_elen C dJx4a65c_add_72be8_2 ?_
  refine g_icmp_ne C 11 dJx4a65c_add_72be8_3 (by decide) (fun h3 => ?_) (fun h3 => ?_)
  · exact absurd (by rw [hv0]; rfl) h3
  · refine g_aload_n C 0 dJx4a65c_add_72be8_6 rfl rfl ?_
    refine g_callV C [] [] (c_grow0 l E X S h hF h100 hel) (recv_at h.1.1 (pF_5 h.1.2)) rfl cm_Jx4a65c_grow_d5877 wv_Jx4a65c_129 ds_Jx4a65c_grow_d5877 rfl rfl (Nat.le_of_ble_eq_true rfl) (by decide) (by decide) dJx4a65c_add_72be8_7 ?_
    rintro v X2 S2 ⟨rfl, q, rfl, hq, h2, hk, n1, n2, n3, hf⟩
    refine g_astore_n C [(2, .ref q), (0, .ref a), (1, .ref x), (3, .int (nI vs.length))] dJx4a65c_add_72be8_10 rfl (by decide) rfl ?_
    refine g_aload_n C 0 dJx4a65c_add_72be8_11 rfl rfl ?_
    refine g_iload_n C 3 dJx4a65c_add_72be8_12 rfl rfl ?_
    refine g_aload_n C 2 dJx4a65c_add_72be8_13 rfl rfl ?_
    refine g_aastE C hk.1 hk.2 (vp_in_nI (by omega) (by omega)) (hf.el hx) dJx4a65c_add_72be8_14 ?_
    rw [nI_clamp (by omega)]
    refine g_know C (fun kn1 _ kn3 => ?_)
    have hsa : E.sa 0 ∉ (S2.sO q vs.length (some x)).L := fun z => kn3 (kn1 _ z)
    refine g_aload_n C 1 dJx4a65c_add_72be8_15 rfl rfl ?_
    refine g_iload_n C 3 dJx4a65c_add_72be8_16 rfl rfl ?_
    refine g_iconst C 1 dJx4a65c_add_72be8_17 (by decide) ?_
    refine g_iadd C dJx4a65c_add_72be8_18 ?_
    rw [nI_1]
    refine g_put (ty := .int) (S2 := ((S2.sO q vs.length (some x)).sI 17 a (nI (vs.length + 1)))) C 2 h2.1.1 (pF_5 h2.1.2) rfl (by decide) in_Jx4a65c tyJx4a65c_ok nmJx4a65c lk_Jx4a65c_48 rfl rfl (by decide +kernel) rfl rfl (Nat.le_of_ble_eq_true rfl) rfl (pu_I17 (S := (S2.sO q vs.length (some x))) h2.1.2 (nI (vs.length + 1))) dJx4a65c_add_72be8_19 ?_
    exact g_vret C hQ rfl dJx4a65c_add_72be8_22 (by decide) (by decide) ⟨rfl, rfl, q, (by have g := h2.rows (Or.inl (fun e => hsa (e ▸ hk.1))); exact al_push h2 hk ⟨n2, n3⟩ n1 h100 x g.2.2.2.2.1 g.2.2.2.2.2), (hf.trans (r1 := q) (Fr.sO) (Or.inr hq)).trans (r1 := r) (Fr.sI (Or.inr rfl)) (Or.inl rfl), Or.inr hq⟩
theorem c_add3 (l : Launch) (E : Ev) (X : va_W) (S : HS) {a r x : Nat} {vs : List Nat} (h : isAL E S a r vs) (h100 : vs.length < 100) (hel : ∀ v ∈ vs, elK S v) (hx : elK S x) : Ctr l yJx4a65c_add_72be8 (Cond.code yJx4a65c_add_72be8 cJx4a65c_add_72be8 4 none) 5 1 150 E [.ref a, .ref x, .ref r, .int (nI vs.length)] X S (Lst none E X S a r (vs ++ [x])) := by
  rcases h.room with hF | ⟨g1, g2, g3, g4, g5, g6⟩
  · rcases id hF with ⟨g1, g2⟩ | ⟨g1, g2, g3⟩
    · subst g1
      exact c_add3E l E X S h h100 hel hx rfl g2 hF
    · exact c_add3F l E X S h h100 hel hx g1 g2 hF
  · exact c_add3R l E X S h h100 hel hx g1 g2 ⟨g3, g4⟩ g5 g6
set_option maxRecDepth 100000 in
theorem c_add (l : Launch) (E : Ev) (X : va_W) (S : HS) {a r x : Nat} {vs : List Nat} (h : isAL E S a r vs) (h100 : vs.length < 100) (hel : ∀ v ∈ vs, elK S v) (hx : elK S x) : Ctr l yJx4a65c_add_9ea2d (Cond.code yJx4a65c_add_9ea2d cJx4a65c_add_9ea2d 2 (some .boolean)) 6 1 150 E [.ref a, .ref x] X S (Lst (some (.int 1)) E X S a r (vs ++ [x])) := by
  refine Ctr.ofG (by decide) [(0, .ref a), (1, .ref x)] rfl (Nat.le_of_ble_eq_true rfl) ?_
  intro p e s m args below meth c A Q C hQ
  refine g_aload_n C 0 dJx4a65c_add_9ea2d_0 rfl rfl ?_
  refine g_dup C dJx4a65c_add_9ea2d_1 rfl ?_
  refine g_getM C 0 h.1.1 (pF_5 h.1.2) rfl (by decide) in_Jx4a65c lk_Jx4a65c_63 w_sf rfl dJx4a65c_add_9ea2d_2 ?_
  refine g_iconst C 1 dJx4a65c_add_9ea2d_5 (by decide) ?_
  refine g_iadd C dJx4a65c_add_9ea2d_6 ?_
  refine g_putM (ty := .int) (S2 := (S.sI 16 a ((S.I 16 a) + 1))) C 0 h.1.1 (pF_5 h.1.2) rfl (by decide) in_Jx4a65c tyJx4a65c_ok nmJx4a65c lk_Jx4a65c_63 w_sf rfl (by decide +kernel) rfl rfl (Nat.le_of_ble_eq_true rfl) rfl (pu_I16 (S := S) h.1.2 ((S.I 16 a) + 1)) dJx4a65c_add_9ea2d_7 ?_
  generalize hm : S.sI 16 a (S.I 16 a + 1) = S1
  have hz : isAL E S1 a r vs := by rw [← hm]; exact al_mod h
  refine g_aload_n C 0 dJx4a65c_add_9ea2d_10 rfl rfl ?_
  refine g_aload_n C 1 dJx4a65c_add_9ea2d_11 rfl rfl ?_
  refine g_aload_n C 0 dJx4a65c_add_9ea2d_12 rfl rfl ?_
  refine g_get (v := .ref r) C 1 hz.1.1 (pF_5 hz.1.2) rfl (by decide) in_Jx4a65c lk_Jx4a65c_9 rfl (congrArg (fun z => some (va_rf z)) hz.2.1) dJx4a65c_add_9ea2d_13 ?_
  refine g_aload_n C 0 dJx4a65c_add_9ea2d_16 rfl rfl ?_
  refine g_get (v := .int (nI vs.length)) C 2 hz.1.1 (pF_5 hz.1.2) rfl (by decide) in_Jx4a65c lk_Jx4a65c_48 rfl (congrArg (fun z => some (Value.int z)) hz.2.2.1) dJx4a65c_add_9ea2d_17 ?_
  refine g_callV C [.ref x, .ref r, .int (nI vs.length)] [] (c_add3 l E X S1 hz h100 (fun v hv => by rw [← hm]; exact hel v hv) (by rw [← hm]; exact hx)) (recv_at hz.1.1 (pF_5 hz.1.2)) rfl cm_Jx4a65c_add_72be8 wv_Jx4a65c_131 ds_Jx4a65c_add_72be8 rfl rfl (Nat.le_of_ble_eq_true rfl) (by decide) (by decide) dJx4a65c_add_9ea2d_20 ?_
  rintro v X2 S2 ⟨rfl, rfl, r2, h2, hf, h3⟩
  refine g_iconst C 1 dJx4a65c_add_9ea2d_23 (by decide) ?_
  exact g_iret C hQ rfl rfl dJx4a65c_add_9ea2d_24 (by decide) (by decide) ⟨rfl, rfl, r2, h2, Fr.trans (r1 := r) (by rw [← hm]; exact Fr.sI (Or.inl rfl)) hf (Or.inl rfl), by rw [← hm] at h3; exact h3⟩
