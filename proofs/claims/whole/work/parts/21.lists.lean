/-- the list at l, its row at r, holds vs -/
def isAL (E : Ev) (S : HS) (l r : Nat) (vs : List Nat) : Prop := isK S 5 l ∧ S.P 10 l = some r ∧ S.I 17 l = nI vs.length ∧ vs.length ≤ 100 ∧
  ((r = E.sa 0 ∧ vs = []) ∨ (isK S 7 r ∧ vs.length ≤ S.N r ∧ 10 ≤ S.N r ∧ S.N r ≤ 150 ∧ (∀ (i : Nat) (h : i < vs.length), S.O r i = some vs[i]) ∧ ∀ i : Nat, vs.length ≤ i → S.O r i = none))
/-- only the list at l and its row at r have changed; new things may have come -/
def Fr (S S2 : HS) (l r : Nat) : Prop :=
  (∃ L9, S2.L = S.L ++ L9) ∧ (∀ a ∈ S.L, S2.K a = S.K a) ∧ (∀ k a, a ∈ S.L → (a ≠ l ∨ (k ≠ 16 ∧ k ≠ 17)) → S2.I k a = S.I k a) ∧ (∀ k a, a ∈ S.L → S2.J k a = S.J k a) ∧ (∀ k a, a ∈ S.L → (a ≠ l ∨ k ≠ 10) → S2.P k a = S.P k a) ∧ (∀ a ∈ S.L, S2.N a = S.N a ∧ S2.R a = S.R a) ∧ (∀ a ∈ S.L, a ≠ r → S2.O a = S.O a)
theorem Fr.rf {S : HS} {l r : Nat} : Fr S S l r := ⟨⟨[], by simp⟩, fun _ _ => rfl, fun _ _ _ _ => rfl, fun _ _ _ => rfl, fun _ _ _ _ => rfl, fun _ _ => ⟨rfl, rfl⟩, fun _ _ _ => rfl⟩
theorem Fr.mem {S S2 : HS} {l r a : Nat} (h : Fr S S2 l r) (ha : a ∈ S.L) : a ∈ S2.L := by
  obtain ⟨L9, e⟩ := h.1
  rw [e]; exact List.mem_append_left _ ha
theorem Fr.trans {S S1 S2 : HS} {l r r1 : Nat} (h : Fr S S1 l r) (h2 : Fr S1 S2 l r1) (hr : r1 = r ∨ r1 ∉ S.L) : Fr S S2 l r := by
  have hm := fun a (ha : a ∈ S.L) => h.mem ha
  obtain ⟨⟨L1, e1⟩, k1, i1, j1, p1, n1, o1⟩ := h
  obtain ⟨⟨L2, e2⟩, k2, i2, j2, p2, n2, o2⟩ := h2
  refine ⟨⟨L1 ++ L2, by rw [e2, e1, List.append_assoc]⟩, fun a ha => (k2 a (hm a ha)).trans (k1 a ha), fun k a ha hc => (i2 k a (hm a ha) hc).trans (i1 k a ha hc), fun k a ha => (j2 k a (hm a ha)).trans (j1 k a ha), fun k a ha hc => (p2 k a (hm a ha) hc).trans (p1 k a ha hc), fun a ha => ⟨(n2 a (hm a ha)).1.trans (n1 a ha).1, (n2 a (hm a ha)).2.trans (n1 a ha).2⟩, fun a ha hc => (o2 a (hm a ha) (fun e => ?_)).trans (o1 a ha hc)⟩
  rcases hr with hr | hr
  · exact hc (e.trans hr)
  · exact hr (e ▸ ha)
theorem Fr.K {S S2 : HS} {l r k a : Nat} (h : Fr S S2 l r) (ha : isK S k a) : isK S2 k a := ⟨h.mem ha.1, (h.2.1 a ha.1).trans ha.2⟩
theorem Fr.el {S S2 : HS} {l r a : Nat} (h : Fr S S2 l r) (ha : elK S a) : elK S2 a := ⟨h.mem ha.1, by rw [h.2.1 a ha.1]; exact ha.2⟩
theorem Fr.sI {S : HS} {l r k : Nat} {v : Int32} (hk : k = 16 ∨ k = 17) : Fr S (S.sI k l v) l r := by
  refine ⟨⟨[], by simp [HS.sI, HS.L]⟩, fun _ _ => rfl, fun k2 a _ hc => ?_, fun _ _ _ => rfl, fun _ _ _ _ => rfl, fun _ _ => ⟨rfl, rfl⟩, fun _ _ _ => rfl⟩
  show u2 S.I k l v k2 a = S.I k2 a
  rcases hc with hc | hc
  · exact u2_ne2 hc
  · exact u2_ne1 (by omega)
theorem Fr.sP {S : HS} {l r : Nat} {v : Option Nat} : Fr S (S.sP 10 l v) l r := by
  refine ⟨⟨[], by simp [HS.sP, HS.L]⟩, fun _ _ => rfl, fun _ _ _ _ => rfl, fun _ _ _ => rfl, fun k2 a _ hc => ?_, fun _ _ => ⟨rfl, rfl⟩, fun _ _ _ => rfl⟩
  show u2 S.P 10 l v k2 a = S.P k2 a
  rcases hc with hc | hc
  · exact u2_ne2 hc
  · exact u2_ne1 hc
theorem Fr.sO {S : HS} {l r j : Nat} {v : Option Nat} : Fr S (S.sO r j v) l r := by
  refine ⟨⟨[], by simp [HS.sO, HS.L]⟩, fun _ _ => rfl, fun _ _ _ _ => rfl, fun _ _ _ => rfl, fun _ _ _ _ => rfl, fun _ _ => ⟨rfl, rfl⟩, fun a _ hc => ?_⟩
  show u2 S.O r j v a = S.O a
  funext i
  exact u2_ne1 hc
theorem Fr.rO {S : HS} {l r : Nat} {f : Nat → Option Nat} : Fr S (S.rO r f) l r := by
  refine ⟨⟨[], by simp [HS.rO, HS.L]⟩, fun _ _ => rfl, fun _ _ _ _ => rfl, fun _ _ _ => rfl, fun _ _ _ _ => rfl, fun _ _ => ⟨rfl, rfl⟩, fun a _ hc => ?_⟩
  exact va_up_ne _ _ hc
theorem Fr.nR {S : HS} {l r q k n : Nat} (hq : q ∉ S.L) : Fr S (S.nR q k n) l r := by
  have hne : ∀ a ∈ S.L, a ≠ q := fun a ha e => hq (e ▸ ha)
  exact ⟨⟨[q], rfl⟩, fun a ha => va_up_ne _ _ (hne a ha), fun _ _ _ _ => rfl, fun _ _ _ => rfl, fun _ _ _ _ => rfl, fun a ha => ⟨va_up_ne _ _ (hne a ha), va_up_ne _ _ (hne a ha)⟩, fun a ha _ => va_up_ne _ _ (hne a ha)⟩
/-- another list stays -/
theorem isAL.frame {E : Ev} {S S2 : HS} {l r l2 r2 : Nat} {vs : List Nat} (h : isAL E S l2 r2 vs) (hf : Fr S S2 l r) (hl : l2 ≠ l) (hr : r2 ≠ r ∨ r2 = E.sa 0 ∧ vs = []) : isAL E S2 l2 r2 vs := by
  obtain ⟨h1, h2, h3, h4, h5⟩ := h
  refine ⟨hf.K h1, (hf.2.2.2.2.1 10 l2 h1.1 (Or.inl hl)).trans h2, (hf.2.2.1 17 l2 h1.1 (Or.inl hl)).trans h3, h4, ?_⟩
  rcases h5 with h5 | ⟨g1, g2, g3, g4, g5, g6⟩
  · exact Or.inl h5
  · rcases hr with hr | hr
    · have eN := (hf.2.2.2.2.2.1 r2 g1.1).1
      have eO := hf.2.2.2.2.2.2 r2 g1.1 hr
      exact Or.inr ⟨hf.K g1, by rw [eN]; exact g2, by rw [eN]; exact g3, by rw [eN]; exact g4, fun i hi => by rw [eO]; exact g5 i hi, fun i hi => by rw [eO]; exact g6 i hi⟩
    · exact Or.inl hr
theorem nlen {n : Nat} (h : n ≤ 1000) : n < 2 ^ 31 := by omega
set_option maxRecDepth 100000 in
theorem c_check3 (l : Launch) (E : Ev) (X : va_W) (S : HS) {i n : Nat} (h : i < n) (hn : n ≤ 1000) : Ctr l yJ3_checkIndex_8e157 (Cond.code yJ3_checkIndex_8e157 cJ3_checkIndex_8e157 3 (some .int)) 1 0 0 E [.int (nI i), .int (nI n), .null] X S (Same (.int (nI i)) X S) := by
  refine Ctr.ofG (by decide) [(0, .int (nI i)), (1, .int (nI n)), (2, .null)] rfl (Nat.le_of_ble_eq_true rfl) ?_
  intro p e s m args below meth c A Q C hQ
  refine g_iload_n C 0 dJ3_checkIndex_8e157_0 rfl rfl ?_
  refine g_if_lt C 9 dJ3_checkIndex_8e157_1 (by decide) (fun h1 => ?_) (fun h1 => ?_)
  · first | exact absurd h1 (nI_pos (by omega)) | exact absurd (nI_lt h (by omega)) h6
  · refine g_iload_n C 0 dJ3_checkIndex_8e157_4 rfl rfl ?_
    refine g_iload_n C 1 dJ3_checkIndex_8e157_5 rfl rfl ?_
    refine g_icmp_lt C 16 dJ3_checkIndex_8e157_6 (by decide) (fun h6 => ?_) (fun h6 => ?_)
    · refine g_iload_n C 0 dJ3_checkIndex_8e157_16 rfl rfl ?_
      exact g_iret C hQ rfl rfl dJ3_checkIndex_8e157_17 (by decide) (by decide) ⟨rfl, rfl, rfl⟩
    · first | exact absurd h1 (nI_pos (by omega)) | exact absurd (nI_lt h (by omega)) h6
set_option maxRecDepth 100000 in
theorem c_check2 (l : Launch) (E : Ev) (X : va_W) (S : HS) {i n : Nat} (h : i < n) (hn : n ≤ 1000) : Ctr l yJ15_checkIndex_7cf53 (Cond.code yJ15_checkIndex_7cf53 cJ15_checkIndex_7cf53 2 (some .int)) 2 0 0 E [.int (nI i), .int (nI n)] X S (Same (.int (nI i)) X S) := by
  refine Ctr.ofG (by decide) [(0, .int (nI i)), (1, .int (nI n))] rfl (Nat.le_of_ble_eq_true rfl) ?_
  intro p e s m args below meth c A Q C hQ
  refine g_iload_n C 0 dJ15_checkIndex_7cf53_0 rfl rfl ?_
  refine g_iload_n C 1 dJ15_checkIndex_7cf53_1 rfl rfl ?_
  refine g_null C dJ15_checkIndex_7cf53_2 ?_
  refine g_callS C [.int (nI i), .int (nI n), .null] [] (c_check3 l E X S h hn) cm_J3_checkIndex_8e157 wst_J15_105 dt_J3_checkIndex_8e157 rfl rfl (Nat.le_of_ble_eq_true rfl) (by decide) (by decide) dJ15_checkIndex_7cf53_3 ?_
  rintro v X2 S2 ⟨rfl, rfl, rfl⟩
  exact g_iret C hQ rfl rfl dJ15_checkIndex_7cf53_6 (by decide) (by decide) ⟨rfl, rfl, rfl⟩
set_option maxRecDepth 100000 in
theorem c_size (l : Launch) (E : Ev) (X : va_W) (S : HS) {a r : Nat} {vs : List Nat} (h : isAL E S a r vs) : Ctr l yJx4a65c_size_8abf5 (Cond.code yJx4a65c_size_8abf5 cJx4a65c_size_8abf5 1 (some .int)) 1 0 0 E [.ref a] X S (Same (.int (nI vs.length)) X S) := by
  refine Ctr.ofG (by decide) [(0, .ref a)] rfl (Nat.le_of_ble_eq_true rfl) ?_
  intro p e s m args below meth c A Q C hQ
  refine g_aload_n C 0 dJx4a65c_size_8abf5_0 rfl rfl ?_
  refine g_get (v := .int (nI vs.length)) C 2 h.1.1 (pF_5 h.1.2) rfl (by decide) in_Jx4a65c lk_Jx4a65c_48 rfl (congrArg (fun z => some (Value.int z)) h.2.2.1) dJx4a65c_size_8abf5_1 ?_
  exact g_iret C hQ rfl rfl dJx4a65c_size_8abf5_4 (by decide) (by decide) ⟨rfl, rfl, rfl⟩
set_option maxRecDepth 100000 in
theorem c_isEmpty (l : Launch) (E : Ev) (X : va_W) (S : HS) {a r : Nat} {vs : List Nat} (h : isAL E S a r vs) : Ctr l yJx4a65c_isEmpty_aae02 (Cond.code yJx4a65c_isEmpty_aae02 cJx4a65c_isEmpty_aae02 1 (some .boolean)) 1 0 0 E [.ref a] X S (Same (.int (if vs.length = 0 then 1 else 0)) X S) := by
  refine Ctr.ofG (by decide) [(0, .ref a)] rfl (Nat.le_of_ble_eq_true rfl) ?_
  intro p e s m args below meth c A Q C hQ
  refine g_aload_n C 0 dJx4a65c_isEmpty_aae02_0 rfl rfl ?_
  refine g_get (v := .int (nI vs.length)) C 2 h.1.1 (pF_5 h.1.2) rfl (by decide) in_Jx4a65c lk_Jx4a65c_48 rfl (congrArg (fun z => some (Value.int z)) h.2.2.1) dJx4a65c_isEmpty_aae02_1 ?_
  refine g_if_ne C 11 dJx4a65c_isEmpty_aae02_4 (by decide) (fun h4 => ?_) (fun h4 => ?_)
  · refine g_iconst C 0 dJx4a65c_isEmpty_aae02_11 (by decide) ?_
    exact g_iret C hQ rfl rfl dJx4a65c_isEmpty_aae02_12 (by decide) (by decide) ⟨by rw [if_neg (fun e => h4 (by rw [e]; rfl))], rfl, rfl⟩
  · refine g_iconst C 1 dJx4a65c_isEmpty_aae02_7 (by decide) ?_
    refine g_goto C 12 dJx4a65c_isEmpty_aae02_8 (by decide) ?_
    exact g_iret C hQ rfl rfl dJx4a65c_isEmpty_aae02_12 (by decide) (by decide) ⟨by rw [if_pos ((nI_eq (nlen (by have := h.2.2.2.1; omega)) (by omega)).mp (h4.trans nI_0.symm))], rfl, rfl⟩
theorem isAL.real {E : Ev} {S : HS} {l r : Nat} {vs : List Nat} (h : isAL E S l r vs) {i : Nat} (hi : i < vs.length) : isK S 7 r ∧ vs.length ≤ S.N r ∧ S.N r ≤ 150 ∧ S.O r i = some vs[i] := by
  obtain ⟨-, -, -, -, h5⟩ := h
  rcases h5 with ⟨-, h5⟩ | ⟨g1, g2, -, g4, g5, -⟩
  · subst h5; exact absurd hi (Nat.not_lt_zero _)
  · exact ⟨g1, g2, g4, g5 i hi⟩
set_option maxRecDepth 100000 in
theorem c_elData (l : Launch) (E : Ev) (X : va_W) (S : HS) {a r : Nat} {vs : List Nat} (h : isAL E S a r vs) {i : Nat} (hi : i < vs.length) : Ctr l yJx4a65c_elementData_915e3 (Cond.code yJx4a65c_elementData_915e3 cJx4a65c_elementData_915e3 2 (some (.object "java/lang/Object"))) 1 0 0 E [.ref a, .int (nI i)] X S (Same (.ref vs[i]) X S) := by
  refine Ctr.ofG (by decide) [(0, .ref a), (1, .int (nI i))] rfl (Nat.le_of_ble_eq_true rfl) ?_
  intro p e s m args below meth c A Q C hQ
  refine g_aload_n C 0 dJx4a65c_elementData_915e3_0 rfl rfl ?_
  refine g_get (v := .ref r) C 1 h.1.1 (pF_5 h.1.2) rfl (by decide) in_Jx4a65c lk_Jx4a65c_9 rfl (congrArg (fun z => some (va_rf z)) h.2.1) dJx4a65c_elementData_915e3_1 ?_
  refine g_iload_n C 1 dJx4a65c_elementData_915e3_4 rfl rfl ?_
  have hr := h.real hi
  refine g_aald C hr.1.1 hr.1.2 (vp_in_nI (by omega) (by omega)) dJx4a65c_elementData_915e3_5 ?_
  rw [nI_clamp (by omega), hr.2.2.2]
  exact g_aret C hQ rfl (by first | exact Or.inl ⟨_, rfl⟩ | exact Or.inr ⟨_, rfl⟩) (Or.inr ⟨_, rfl⟩) dJx4a65c_elementData_915e3_6 (by decide) (by decide) ⟨rfl, rfl, rfl⟩
set_option maxRecDepth 100000 in
theorem c_get (l : Launch) (E : Ev) (X : va_W) (S : HS) {a r : Nat} {vs : List Nat} (h : isAL E S a r vs) {i : Nat} (hi : i < vs.length) : Ctr l yJx4a65c_get_915e3 (Cond.code yJx4a65c_get_915e3 cJx4a65c_get_915e3 2 (some (.object "java/lang/Object"))) 3 0 0 E [.ref a, .int (nI i)] X S (Same (.ref vs[i]) X S) := by
  refine Ctr.ofG (by decide) [(0, .ref a), (1, .int (nI i))] rfl (Nat.le_of_ble_eq_true rfl) ?_
  intro p e s m args below meth c A Q C hQ
  refine g_iload_n C 1 dJx4a65c_get_915e3_0 rfl rfl ?_
  refine g_aload_n C 0 dJx4a65c_get_915e3_1 rfl rfl ?_
  refine g_get (v := .int (nI vs.length)) C 2 h.1.1 (pF_5 h.1.2) rfl (by decide) in_Jx4a65c lk_Jx4a65c_48 rfl (congrArg (fun z => some (Value.int z)) h.2.2.1) dJx4a65c_get_915e3_2 ?_
  refine g_callS C [.int (nI i), .int (nI vs.length)] [] (c_check2 l E X S hi (by have := h.2.2.2.1; omega)) cm_J15_checkIndex_7cf53 wst_Jx4a65c_118 dt_J15_checkIndex_7cf53 rfl rfl (Nat.le_of_ble_eq_true rfl) (by decide) (by decide) dJx4a65c_get_915e3_5 ?_
  rintro v X2 S2 ⟨rfl, rfl, rfl⟩
  refine g_pop C dJx4a65c_get_915e3_8 rfl ?_
  refine g_aload_n C 0 dJx4a65c_get_915e3_9 rfl rfl ?_
  refine g_iload_n C 1 dJx4a65c_get_915e3_10 rfl rfl ?_
  refine g_callV C [.int (nI i)] [] (c_elData l E X S h hi) (recv_at h.1.1 (pF_5 h.1.2)) rfl cm_Jx4a65c_elementData_915e3 wv_Jx4a65c_123 ds_Jx4a65c_elementData_915e3 rfl rfl (Nat.le_of_ble_eq_true rfl) (by decide) (by decide) dJx4a65c_get_915e3_11 ?_
  rintro v X2 S2 ⟨rfl, rfl, rfl⟩
  exact g_aret C hQ rfl (by first | exact Or.inl ⟨_, rfl⟩ | exact Or.inr ⟨_, rfl⟩) (Or.inr ⟨_, rfl⟩) dJx4a65c_get_915e3_14 (by decide) (by decide) ⟨rfl, rfl, rfl⟩
