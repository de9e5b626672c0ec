/-! ===== a call on both sides ===== -/
/-- the class's call and the reference's: both answer alike, or both refuse alike -/
def Duo (l : Launch) (E : Ev) (x o : Nat) (a : Nat → Nat) (S : HS) (M : MM) (yC : MethodName) (cC : Cond) (kC mcC msC : Nat) (yM : MethodName) (cM : Cond) (kM : Nat) (av : List Value) (cds : List (String × Int32)) : Prop :=
  (∃ Po : va_W → Option Value → va_W → HS → Prop, (∀ X, Ctr l yC cC kC mcC msC E (.ref x :: av) X S (Po X)) ∧ ∀ X v X2 S2, Po X v X2 S2 → X = X2 ∧ ∃ z, some (.int z) = v ∧ (E.sa 0 ∉ S2.L → ∃ Pm : Option Value → MM → Prop, (∀ Y S9, Ctr l yM cM kM 0 0 E (.ref o :: av) (mw E o a M ++ Y) S9 (PoM E o a Y S9 Pm)) ∧ ∀ v2 M2, Pm v2 M2 → some (.int z) = v2 ∧ M2 0 0 = 0 ∧ Rel E S2 M2 x)) ∨
  (∃ (cls : String) (code : Int32), (cls, code) ∈ cds ∧ ¬ code = 0 ∧ (∀ X, CtrT l yC cC kC 1 6 E (.ref x :: av) X S cls) ∧ ∃ Pm : Option Value → MM → Prop, (∀ Y S9, Ctr l yM cM kM 0 0 E (.ref o :: av) (mw E o a M ++ Y) S9 (PoM E o a Y S9 Pm)) ∧ ∀ v2 M2, Pm v2 M2 → (∃ z, some (.int z) = v2) ∧ M2 0 0 = code ∧ Rel E S M2 x)
theorem num_split (n : Nat) (h : n ≤ 2 ^ 30) (v : Int32) : (∃ i, i < n ∧ v = nI i) ∨ (v < 0 ∨ ¬ v < nI n) := by
  by_cases h0 : v < 0
  · exact Or.inr (Or.inl h0)
  · by_cases h1 : v < nI n
    · have h2 := Int32.not_lt.mp h0
      rw [Int32.le_iff_toInt_le, Int32.toInt_zero] at h2
      rw [Int32.lt_iff_toInt_lt, nI_toInt (by omega)] at h1
      exact Or.inl ⟨v.toInt.toNat, by omega, Int32.toInt_inj.mp (by rw [nI_toInt (by omega)]; omega)⟩
    · exact Or.inr (Or.inr h1)
theorem isn_f {M : MM} {n : Nat} {v : Int32} (hn : M 1 0 = nI n) (h : v < 0 ∨ ¬ v < nI n) : isn M v = false := by
  unfold isn
  rw [hn]
  rcases h with h | h
  · simp [h]
  · simp [h]
theorem nsA {A : Nat → Nat} {n i : Nat} (h : i < ((List.range n).map A).length) : ((List.range n).map A)[i] = A i := by simp
theorem nsL {A : Nat → Nat} {n : Nat} : ((List.range n).map A).length = n := by simp
theorem shp.O {E : Ev} {S : HS} {x n : Nat} {A LA RA : Nat → Nat} {CO : Nat → List Nat} (h : shp E S x n A LA RA CO) (h0 : CO 0 = (List.range n).map A) : crO E S x (LA 0) (RA 0) ((List.range n).map A) := by
  refine ⟨h.1, h.2.1, by rw [← h0]; exact h.2.2.2.2.1 0 (by omega), fun a ha => ?_⟩
  obtain ⟨i, hi, e⟩ := List.mem_map.mp ha
  rw [← e]; exact (h.2.2.2.1 i (List.mem_range.mp hi)).1
theorem shp.Fl {E : Ev} {S : HS} {x n : Nat} {A LA RA : Nat → Nat} {CO : Nat → List Nat} (h : shp E S x n A LA RA CO) {fk : List Nat} (h1 : CO 1 = fk.map A) (hf : ∀ q ∈ fk, q < n) : crF E S x (LA 1) (RA 1) (fk.map A) := by
  refine ⟨h.1, h.2.2.1, by rw [← h1]; exact h.2.2.2.2.1 1 (by omega), fun a ha => ?_⟩
  obtain ⟨i, hi, e⟩ := List.mem_map.mp ha
  rw [← e]; exact (h.2.2.2.1 i (hf i hi)).1
theorem shp.C {E : Ev} {S : HS} {x n : Nat} {A LA RA : Nat → Nat} {CO : Nat → List Nat} (h : shp E S x n A LA RA CO) {i : Nat} (hi : i < n) : cpl E S (A i) (LA (2 + 2 * i)) (RA (2 + 2 * i)) (CO (2 + 2 * i)) := ⟨(h.2.2.2.1 i hi).1, (h.2.2.2.1 i hi).2.1, h.2.2.2.2.1 _ (by omega), (h.2.2.2.2.2.2.1 i hi).1⟩
theorem shp.G {E : Ev} {S : HS} {x n : Nat} {A LA RA : Nat → Nat} {CO : Nat → List Nat} (h : shp E S x n A LA RA CO) {i : Nat} (hi : i < n) : stl E S (A i) (LA (3 + 2 * i)) (RA (3 + 2 * i)) (CO (3 + 2 * i)) := ⟨(h.2.2.2.1 i hi).1, (h.2.2.2.1 i hi).2.2, h.2.2.2.2.1 _ (by omega), (h.2.2.2.2.2.2.1 i hi).2⟩
/-- which net an address is -/
def iv (A : Nat → Nat) (n a : Nat) : Nat := ((List.range n).find? (fun i => decide (A i = a))).getD 0
theorem iv_A {A : Nat → Nat} {n : Nat} (hA : ∀ p q, p < n → q < n → A p = A q → p = q) {i : Nat} (hi : i < n) : iv A n (A i) = i := by
  unfold iv
  cases e : (List.range n).find? (fun j => decide (A j = A i)) with
  | none =>
    have := List.find?_eq_none.mp e i (List.mem_range.mpr hi)
    simp at this
  | some j =>
    have h1 := List.find?_some e
    have h2 := List.mem_range.mp (List.mem_of_find?_eq_some e)
    exact hA j i h2 hi (by simpa using h1)
theorem coup.sums {E : Ev} {S : HS} {M : MM} {x n ran st : Nat} {A LA RA : Nat → Nat} {CO ks : Nat → List Nat} (h1 : shp E S x n A LA RA CO) (h2 : numb S M A n ran) (h3 : coup S M A CO ks n) (h6 : bnds M n st) : sums S M A (fun a => CO (2 + 2 * iv A n a)) ks n := by
  refine ⟨h2.2.2.2.1, fun i hi => ⟨(h2.1 i hi).1, (h2.1 i hi).2.2.2.1, ?_, (h3.1 i hi).2, fun j hj => ⟨h3.2.2 i j hi (by have := h2.2.2.2.1; omega), (h6.2.1 i j hi hj).1⟩⟩⟩
  show prC S (CO (2 + 2 * iv A n (A i))) = _
  rw [iv_A h1.2.2.2.2.2.2.2.1 hi]; exact (h3.1 i hi).1
theorem d_early {l : Launch} (hlt : l.stackTraces = false) {E : Ev} {x o : Nat} {a : Nat → Nat} {S : HS} {M : MM} (hR : Rel E S M x) (v : Int32) : Duo l E x o a S M yX4_early (Cond.code yX4_early cX4_early 2 (some .int)) 5 0 0 yX5_early (Cond.code yX5_early cX5_early 2 (some .int)) 2 [.int v] [(xIO, 1)] := by
  have hR0 := hR
  obtain ⟨n, st, r, rd, ran, t, ha, ta, cg, A, LA, RA, F, T, CO, ks, fk, h1, h2, h3, h4, h5, h6⟩ := hR
  have hO := h1.O h4.2.2.2.2.2.2.1
  have h40 := h2.2.2.2.1
  rcases num_split n (by omega) v with ⟨i, hi, e⟩ | hv
  · subst e
    refine Or.inl ⟨_, fun X => c_early l E X S hO (i := i) (by rw [nsL]; exact hi), ?_⟩
    rintro X v X2 S2 ⟨rfl, rfl, rfl⟩
    refine ⟨rfl, _, rfl, fun _ => ⟨_, fun Y S9 => c_mearly l E o a M Y S9 h2.2.2.1 h40 hi, ?_⟩⟩
    rintro v2 M2 ⟨rfl, e2⟩
    refine ⟨?_, by rw [← e2]; exact u2_self, hR0.code e2⟩
    rw [nsA, ((h2.2.1 i hi)).1, h2.2.2.2.2.1]
    have := h2.2.2.2.2.2
    by_cases c : i < ran
    · rw [if_pos c, if_neg (fun z => by rw [nI_leI (by omega) (by omega)] at z; omega)]
    · rw [if_neg c, if_pos ((nI_leI (by omega) (by omega)).mpr (by omega))]
  · refine Or.inr ⟨xIO, 1, by simp, by decide, fun X => c_earlyT l hlt E X S hO (by rw [nsL]; exact hv), _, fun Y S9 => c_mearlyB l E o a M Y S9 (isn_f h2.2.2.1 hv), ?_⟩
    rintro v2 M2 ⟨rfl, e2⟩
    exact ⟨⟨_, rfl⟩, by rw [← e2]; exact u2_self, hR0.code e2⟩
theorem d_late {l : Launch} (hlt : l.stackTraces = false) {E : Ev} {x o : Nat} {a : Nat → Nat} {S : HS} {M : MM} (hR : Rel E S M x) (v : Int32) : Duo l E x o a S M yX4_late (Cond.code yX4_late cX4_late 2 (some .int)) 5 0 0 yX5_late (Cond.code yX5_late cX5_late 2 (some .int)) 2 [.int v] [(xIO, 1)] := by
  have hR0 := hR
  obtain ⟨n, st, r, rd, ran, t, ha, ta, cg, A, LA, RA, F, T, CO, ks, fk, h1, h2, h3, h4, h5, h6⟩ := hR
  have hO := h1.O h4.2.2.2.2.2.2.1
  have h40 := h2.2.2.2.1
  rcases num_split n (by omega) v with ⟨i, hi, e⟩ | hv
  · subst e
    refine Or.inl ⟨_, fun X => c_late l E X S hO (i := i) (by rw [nsL]; exact hi), ?_⟩
    rintro X v X2 S2 ⟨rfl, rfl, rfl⟩
    refine ⟨rfl, _, rfl, fun _ => ⟨_, fun Y S9 => c_mlate l E o a M Y S9 h2.2.2.1 h40 hi, ?_⟩⟩
    rintro v2 M2 ⟨rfl, e2⟩
    refine ⟨?_, by rw [← e2]; exact u2_self, hR0.code e2⟩
    rw [nsA, ((h2.2.1 i hi)).2, h2.2.2.2.2.1]
    have := h2.2.2.2.2.2
    by_cases c : i < ran
    · rw [if_pos c, if_neg (fun z => by rw [nI_leI (by omega) (by omega)] at z; omega)]
    · rw [if_neg c, if_pos ((nI_leI (by omega) (by omega)).mpr (by omega))]
  · refine Or.inr ⟨xIO, 1, by simp, by decide, fun X => c_lateT l hlt E X S hO (by rw [nsL]; exact hv), _, fun Y S9 => c_mlateB l E o a M Y S9 (isn_f h2.2.2.1 hv), ?_⟩
    rintro v2 M2 ⟨rfl, e2⟩
    exact ⟨⟨_, rfl⟩, by rw [← e2]; exact u2_self, hR0.code e2⟩
theorem d_added {l : Launch} (hlt : l.stackTraces = false) {E : Ev} {x o : Nat} {a : Nat → Nat} {S : HS} {M : MM} (hR : Rel E S M x) (v : Int32) : Duo l E x o a S M yX4_added (Cond.code yX4_added cX4_added 2 (some .int)) 5 0 0 yX5_added (Cond.code yX5_added cX5_added 2 (some .int)) 2 [.int v] [(xIO, 1)] := by
  have hR0 := hR
  obtain ⟨n, st, r, rd, ran, t, ha, ta, cg, A, LA, RA, F, T, CO, ks, fk, h1, h2, h3, h4, h5, h6⟩ := hR
  have hO := h1.O h4.2.2.2.2.2.2.1
  have h40 := h2.2.2.2.1
  rcases num_split n (by omega) v with ⟨i, hi, e⟩ | hv
  · subst e
    refine Or.inl ⟨_, fun X => c_added l E X S hO (i := i) (by rw [nsL]; exact hi), ?_⟩
    rintro X v X2 S2 ⟨rfl, rfl, rfl⟩
    refine ⟨rfl, _, rfl, fun _ => ⟨_, fun Y S9 => c_madded l E o a M Y S9 h2.2.2.1 h40 hi, ?_⟩⟩
    rintro v2 M2 ⟨rfl, e2⟩
    exact ⟨by rw [nsA, (h2.1 i hi).2.2.2.2], by rw [← e2]; exact u2_self, hR0.code e2⟩
  · refine Or.inr ⟨xIO, 1, by simp, by decide, fun X => c_addedT l hlt E X S hO (by rw [nsL]; exact hv), _, fun Y S9 => c_maddedB l E o a M Y S9 (isn_f h2.2.2.1 hv), ?_⟩
    rintro v2 M2 ⟨rfl, e2⟩
    exact ⟨⟨_, rfl⟩, by rw [← e2]; exact u2_self, hR0.code e2⟩
theorem d_changed {l : Launch} (hlt : l.stackTraces = false) {E : Ev} {x o : Nat} {a : Nat → Nat} {S : HS} {M : MM} (hR : Rel E S M x) (v : Int32) : Duo l E x o a S M yX4_changed (Cond.code yX4_changed cX4_changed 2 (some .int)) 2 0 0 yX5_changed (Cond.code yX5_changed cX5_changed 2 (some .int)) 1 [.int v] [(xIO, 1)] := by
  have hR0 := hR
  obtain ⟨n, st, r, rd, ran, t, ha, ta, cg, A, LA, RA, F, T, CO, ks, fk, h1, h2, h3, h4, h5, h6⟩ := hR
  have hg := h5.2.1
  have h50 : rd ≤ 50 := hg.2.2.2.2.2
  have hrd := h5.2.2.2.2.2.2.2.2.2.2.1
  rcases num_split rd (by omega) v with ⟨i, hi, e⟩ | hv
  · subst e
    refine Or.inl ⟨_, fun X => c_changed l E X S hg hi, ?_⟩
    rintro X v X2 S2 ⟨rfl, rfl, rfl⟩
    refine ⟨rfl, _, rfl, fun _ => ⟨_, fun Y S9 => c_mchanged l E o a M Y S9 hrd h50 hi, ?_⟩⟩
    rintro v2 M2 ⟨rfl, e2⟩
    exact ⟨by rw [h5.2.2.2.2.2.2.2.2.2.2.2 i hi], by rw [← e2]; exact u2_self, hR0.code e2⟩
  · refine Or.inr ⟨xIO, 1, by simp, by decide, fun X => c_changedT l hlt E X S hg hv, _, fun Y S9 => c_mchangedB l E o a M Y S9 (by rw [hrd]; exact hv), ?_⟩
    rintro v2 M2 ⟨rfl, e2⟩
    exact ⟨⟨_, rfl⟩, by rw [← e2]; exact u2_self, hR0.code e2⟩
theorem d_height {l : Launch} (hlt : l.stackTraces = false) {E : Ev} {x o : Nat} {a : Nat → Nat} {S : HS} {M : MM} (hR : Rel E S M x) (v : Int32) : Duo l E x o a S M yX4_height (Cond.code yX4_height cX4_height 2 (some .int)) 5 0 0 yX5_height (Cond.code yX5_height cX5_height 2 (some .int)) 4 [.int v] [(xIO, 1)] := by
  have hR0 := hR
  obtain ⟨n, st, r, rd, ran, t, ha, ta, cg, A, LA, RA, F, T, CO, ks, fk, h1, h2, h3, h4, h5, h6⟩ := hR
  have hO := h1.O h4.2.2.2.2.2.2.1
  have h40 := h2.2.2.2.1
  have hA := h1.2.2.2.2.2.2.2.1
  rcases num_split n (by omega) v with ⟨i, hi, e⟩ | hv
  · subst e
    refine Or.inl ⟨_, fun X => c_height l E X S hO (i := i) (by rw [nsL]; exact hi) (by rw [nsA]; exact h1.C hi), ?_⟩
    rintro X v X2 S2 ⟨rfl, rfl, rfl⟩
    refine ⟨rfl, _, rfl, fun _ => ⟨_, fun Y S9 => c_mheight l E o a M Y S9 h2.2.2.1 h40 hi, ?_⟩⟩
    rintro v2 M2 ⟨rfl, e2, e3⟩
    refine ⟨?_, e2, hR0.mcg (fun k hk => e3 k (cne hk rfl) (cne hk rfl))⟩
    have q := hgt_m (coup.sums h1 h2 h3 h6) hi (h5.2.2.2.2.1).symm
    rw [iv_A hA hi] at q
    rw [← q, nsA]; rfl
  · refine Or.inr ⟨xIO, 1, by simp, by decide, fun X => c_heightT l hlt E X S hO (by rw [nsL]; exact hv), _, fun Y S9 => c_mheightB l E o a M Y S9 (isn_f h2.2.2.1 hv), ?_⟩
    rintro v2 M2 ⟨rfl, e2⟩
    exact ⟨⟨_, rfl⟩, by rw [← e2]; exact u2_self, hR0.code e2⟩
theorem d_source {l : Launch} (hlt : l.stackTraces = false) {E : Ev} {x o : Nat} {a : Nat → Nat} {S : HS} {M : MM} (hR : Rel E S M x) (v k : Int32) : Duo l E x o a S M yX4_source (Cond.code yX4_source cX4_source 4 (some .int)) 5 0 0 yX5_source (Cond.code yX5_source cX5_source 3 (some .int)) 4 [.int v, .int k] [(xIO, 1)] := by
  have hR0 := hR
  obtain ⟨n, st, r, rd, ran, t, ha, ta, cg, A, LA, RA, F, T, CO, ks, fk, h1, h2, h3, h4, h5, h6⟩ := hR
  have hO := h1.O h4.2.2.2.2.2.2.1
  have h40 := h2.2.2.2.1
  have hA := h1.2.2.2.2.2.2.2.1
  rcases num_split n (by omega) v with ⟨i, hi, e⟩ | hv
  · subst e
    by_cases hk : 0 ≤ k
    · have hk2 := hk
      rw [Int32.le_iff_toInt_le, Int32.toInt_zero] at hk2
      have hk3 := Int32.toInt_lt k
      have ek : k = nI k.toInt.toNat := Int32.toInt_inj.mp (by rw [nI_toInt (by omega)]; omega)
      generalize hkq : k.toInt.toNat = kq at ek
      have hkq2 : kq < 2 ^ 31 := by omega
      subst ek
      refine Or.inl ⟨_, fun X => c_source l E X S hO (i := i) (by rw [nsL]; exact hi) (by rw [nsA]; exact h1.C hi) hk, ?_⟩
      rintro X v X2 S2 ⟨rfl, rfl, rfl⟩
      refine ⟨rfl, _, rfl, fun _ => ⟨_, fun Y S9 => c_msource l E o a M Y S9 h2.2.2.1 h40 hi hkq2, ?_⟩⟩
      rintro v2 M2 ⟨rfl, e2, e3⟩
      refine ⟨?_, e2, hR0.mcg (fun k hk => e3 k (cne hk rfl) (cne hk rfl))⟩
      have q := nsrc_m (coup.sums h1 h2 h3 h6) hi hkq2
      rw [iv_A hA hi] at q
      rw [← q, nsA]
    · refine Or.inr ⟨xIO, 1, by simp, by decide, fun X => c_sourceT2 l hlt E X S hO (i := i) (by rw [nsL]; exact hi) hk, _, fun Y S9 => c_msourceB l E o a M Y S9 (Or.inr (Int32.not_le.mp hk)), ?_⟩
      rintro v2 M2 ⟨rfl, e2⟩
      exact ⟨⟨_, rfl⟩, by rw [← e2]; exact u2_self, hR0.code e2⟩
  · refine Or.inr ⟨xIO, 1, by simp, by decide, fun X => c_sourceT l hlt E X S hO (by rw [nsL]; exact hv), _, fun Y S9 => c_msourceB l E o a M Y S9 (Or.inl (isn_f h2.2.2.1 hv)), ?_⟩
    rintro v2 M2 ⟨rfl, e2⟩
    exact ⟨⟨_, rfl⟩, by rw [← e2]; exact u2_self, hR0.code e2⟩
theorem d_count {l : Launch} (hlt : l.stackTraces = false) {E : Ev} {x o : Nat} {a : Nat → Nat} {S : HS} {M : MM} (hR : Rel E S M x) (v : Int32) : Duo l E x o a S M yX4_count (Cond.code yX4_count cX4_count 2 (some .int)) 2 0 0 yX5_count (Cond.code yX5_count cX5_count 2 (some .int)) 2 [.int v] [(xIO, 1)] := by
  have hR0 := hR
  obtain ⟨n, st, r, rd, ran, t, ha, ta, cg, A, LA, RA, F, T, CO, ks, fk, h1, h2, h3, h4, h5, h6⟩ := hR
  have hO := h1.O h4.2.2.2.2.2.2.1
  rcases num_split 5 (by omega) v with ⟨i, hi, e⟩ | hv
  · subst e
    have go : ∀ (z z2 : Int32), z = z2 → (∀ X, Ctr l yX4_count (Cond.code yX4_count cX4_count 2 (some .int)) 2 0 0 E [.ref x, .int (nI i)] X S (Same (.int z) X S)) → (∀ Y S9, Ctr l yX5_count (Cond.code yX5_count cX5_count 2 (some .int)) 2 0 0 E [.ref o, .int (nI i)] (mw E o a M ++ Y) S9 (PoM E o a Y S9 (fun v2 M2 => some (.int z2) = v2 ∧ u2 M 0 0 0 = M2))) → Duo l E x o a S M yX4_count (Cond.code yX4_count cX4_count 2 (some .int)) 2 0 0 yX5_count (Cond.code yX5_count cX5_count 2 (some .int)) 2 [.int (nI i)] [(xIO, 1)] := by
      intro z z2 ez k1 k2
      refine Or.inl ⟨_, k1, ?_⟩
      rintro X v X2 S2 ⟨rfl, rfl, rfl⟩
      refine ⟨rfl, _, rfl, fun _ => ⟨_, k2, ?_⟩⟩
      rintro v2 M2 ⟨rfl, e2⟩
      exact ⟨by rw [ez], by rw [← e2]; exact u2_self, hR0.code e2⟩
    match i, hi with
    | 0, _ => exact go _ _ (by rw [nsL, h2.2.2.1]) (fun X => c_count0 l E X S hO h5.1) (fun Y S9 => c_mcount0 l E o a M Y S9)
    | 1, _ => exact go _ _ h5.2.2.2.2.2.1 (fun X => c_count1 l E X S hO h5.1) (fun Y S9 => c_mcount1 l E o a M Y S9)
    | 2, _ => exact go _ _ h5.2.2.2.2.2.2.1 (fun X => c_count2 l E X S hO h5.1) (fun Y S9 => c_mcount2 l E o a M Y S9)
    | 3, _ => exact go _ _ (by rw [h4.2.2.1, h4.1.1]) (fun X => c_count3 l E X S hO h5.1) (fun Y S9 => c_mcount3 l E o a M Y S9)
    | 4, _ => exact go _ _ (by rw [h5.2.2.2.2.2.2.2.2.1]) (fun X => c_count4 l E X S hO h5.1) (fun Y S9 => c_mcount4 l E o a M Y S9)
  · have hv2 : v.toInt < 0 ∨ 4 < v.toInt := by
      rcases hv with hv | hv
      · rw [Int32.lt_iff_toInt_lt, Int32.toInt_zero] at hv; exact Or.inl hv
      · rw [Int32.lt_iff_toInt_lt, nI_toInt (by omega)] at hv; omega
    have hw : wi v 0 4 = false := by
      unfold wi
      rcases hv2 with h | h
      · have : v < 0 := by rw [Int32.lt_iff_toInt_lt, Int32.toInt_zero]; exact h
        simp [this]
      · have : 4 < v := by rw [Int32.lt_iff_toInt_lt, show (4 : Int32).toInt = 4 by decide]; exact h
        simp [this]
    refine Or.inr ⟨xIO, 1, by simp, by decide, fun X => c_countT l hlt E X S hO hv2, _, fun Y S9 => c_mcountB l E o a M Y S9 hw, ?_⟩
    rintro v2 M2 ⟨rfl, e2⟩
    exact ⟨⟨_, rfl⟩, by rw [← e2]; exact u2_self, hR0.code e2⟩
